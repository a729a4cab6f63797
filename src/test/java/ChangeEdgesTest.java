import java.util.function.Supplier;
import java.util.function.ToIntFunction;

/** The edges that "Changes and errors" and promise 21 name, a sentence at a time. */
public final class ChangeEdgesTest {
    private static final int LEAST = Integer.MIN_VALUE;
    private static final int MOST = Integer.MAX_VALUE;

    public static void main(String[] args) {
        eachChangeIsRecorded();
        changesThatLeaveAllAsItWas();
        refusedWriteIsAChange();
        otherCallsAreNoChanges();
        errorsAreNoChanges();
        emptyHistory();
        fourStates();
        fifthStateDropsTheOldest();
        undoneStatesMakeRoom();
        everythingButTheText();
        undoOfCounts();
        undoOfDroppedVolumes();
        noVolumeWithTheNumber();
        noSuchPlaceInIt();
        invalidRatherThanNotPossible();
        invalidRatherThanLimitReached();
        invalidRatherThanNotFound();
        invalidRatherThanRefused();
        errorsOfRangeChangeNothing();
        errorsOfStateChangeNothing();
        refusedIsNoError();
        Check.end("ChangeEdgesTest");
    }

    /**
     * Volume 0 shares piece 0 with its clone 1 and has pieces 1 (value 0) and 2 (value 5) alone; volume 2 has piece 3
     * and a promise of 2; the level is 2, 1 was refused, and the text is "w0,0,1;".
     */
    private static ThinVolumes busy() {
        ThinVolumes x = Check.withVolumes(4);
        x.write(0, 0, 5);
        x.share(0);
        x.volume(3);
        x.write(0, 1, 0);
        x.write(0, 2, 5);
        x.promise(2, 3);
        x.write(2, 0, 9);
        x.set(1, 30);
        x.write(1, 3, 1);
        Check.typeAll(x, "w0,0,1;");
        return x;
    }

    private static final String[] CHANGES = {"volume(1)", "share(2)", "drop(0)", "promise(0, 5)", "set(0, 5)",
        "write(0, 2, 6)", "write(2, 1, 6)", "trim(0, 1)", "sweep(0)", "merge()", "play()"};

    private static int change(ThinVolumes x, int which) {
        switch (which) {
            case 0: return x.volume(1);
            case 1: return x.share(2);
            case 2: return x.drop(0);
            case 3: return x.promise(0, 5);
            case 4: return x.set(0, 5);
            case 5: return x.write(0, 2, 6);
            case 6: return x.write(2, 1, 6);
            case 7: return x.trim(0, 1);
            case 8: return x.sweep(0);
            case 9: return x.merge();
            default: return x.play();
        }
    }

    private static void eachChangeIsRecorded() {
        Check.sentence("The changes are the calls of volume, share, drop, write, trim, sweep, merge, promise, set and play "
            + "that return no error");
        int[] due = {3, 3, 2, 0, 10, 2, 4, 1, 1, 1, 0};
        for (int which = 0; which < CHANGES.length; which++) {
            // A state that was taken back must not come again in place of the one that is due.
            ThinVolumes x = busy();
            x.undo();
            x.undo();
            x.set(2, 41);
            String ahead = Check.view(x);
            Check.due(CHANGES[which], change(x, which), due[which]);
            Check.due("states behind " + CHANGES[which], x.count(11), 4);
            Check.due("undo() of " + CHANGES[which], x.undo(), 3);
            Check.due("undo() takes back " + CHANGES[which], Check.view(x).equals(ahead));
        }
    }

    private static void changesThatLeaveAllAsItWas() {
        Supplier<ThinVolumes> apart = () -> {
            ThinVolumes x = Check.withVolumes(4, 2);
            x.write(0, 0, 5);
            return x;
        };
        dueChange("promise(0, 0)", 0, apart, x -> x.promise(0, 0));
        dueChange("set(0, 10)", 10, apart, x -> x.set(0, 10));
        dueChange("write(0, 0, 5), the same value", 0, apart, x -> x.write(0, 0, 5));
        dueChange("sweep(0), no value 0", 0, apart, x -> x.sweep(0));
        dueChange("sweep(1), no pieces", 0, apart, x -> x.sweep(1));
        dueChange("merge(), no two pieces of a value", 0, apart, ThinVolumes::merge);
        dueChange("drop(1), no pieces", 0, apart, x -> x.drop(1));
        dueChange("play(), no orders", 0, apart, ThinVolumes::play);
        Supplier<ThinVolumes> shared = () -> {
            ThinVolumes x = Check.withVolumes(4);
            x.write(0, 0, 0);
            x.share(0);
            return x;
        };
        dueChange("trim(0, 0), shared", 0, shared, x -> x.trim(0, 0));
        dueChange("sweep(0), shared", 0, shared, x -> x.sweep(0));
        dueChange("drop(0), shared", 0, shared, x -> x.drop(0));
        dueChange("merge(), one piece", 0, shared, ThinVolumes::merge);
    }

    /** The call is a change of an object that had three. */
    private static void dueChange(String call, int want, Supplier<ThinVolumes> setUp, ToIntFunction<ThinVolumes> it) {
        ThinVolumes x = setUp.get();
        Check.due("states ahead of " + call, x.count(11), 3);
        Check.due(call, it.applyAsInt(x), want);
        Check.due("states behind " + call, x.count(11), 4);
        Check.due("undo() of " + call, x.undo(), 3);
        Check.due("undo() takes back " + call, Check.view(x).equals(Check.view(setUp.get())));
    }

    private static void refusedWriteIsAChange() {
        Check.sentence("and of write when it returns REFUSED.");
        ThinVolumes x = Check.withVolumes(2, 2);
        x.set(1, 30);
        Check.due("write(1, 0, 1)", x.write(1, 0, 1), Check.REFUSED);
        Check.due("states", x.count(11), 4);
        Check.due("undo()", x.undo(), 3);
        Check.due("manners", x.volumeOf(1, 3), 50);
        Check.due("its refusals", x.volumeOf(1, 8), 0);
        Check.due("all refusals", x.count(7), 0);
        Check.due("warnings", x.count(10), 1);
        Check.due("setting 1 is as it was set", x.count(21), 30);
    }

    private static void otherCallsAreNoChanges() {
        ThinVolumes x = busy();
        x.undo();
        String ahead = Check.view(x);
        x.read(0, 0, 0);
        x.read(0, 0, 1);
        x.pieceOf(0, 2);
        x.warningOf(0, 2);
        x.couldGet(0);
        x.couldGet(2);
        x.couldFree(0);
        x.couldFree(-1);
        x.couldFree(-2);
        x.family(0, 0);
        x.family(0, 1);
        x.family(0, 2);
        x.ranked(0);
        x.over(0);
        x.over(1);
        x.count(11);
        x.fault(0);
        x.fault(1);
        x.type('x');
        x.fault(0);
        x.clearText();
        Check.due("states", x.count(11), 3);
        Check.due("these calls change nothing", Check.view(x).equals(ahead));
        Check.due("undo()", x.undo(), 2);
    }

    private static void errorsAreNoChanges() {
        ThinVolumes x = Check.withVolumes(2, 2);
        Check.due("volume(0)", x.volume(0), Check.INVALID);
        Check.due("share(2)", x.share(2), Check.INVALID);
        Check.due("drop(2)", x.drop(2), Check.INVALID);
        Check.due("promise(0, 31)", x.promise(0, 31), Check.INVALID);
        Check.due("set(0, 31)", x.set(0, 31), Check.INVALID);
        Check.due("write(0, 2, 1)", x.write(0, 2, 1), Check.INVALID);
        Check.due("trim(0, 0)", x.trim(0, 0), Check.NOT_POSSIBLE);
        Check.due("trim(0, 2)", x.trim(0, 2), Check.INVALID);
        Check.due("sweep(2)", x.sweep(2), Check.INVALID);
        x.type('x');
        Check.due("play()", x.play(), Check.NOT_POSSIBLE);
        Check.due("states", x.count(11), 2);
        Check.due("undo()", x.undo(), 1);
        Check.due("the latest change was the second volume", x.count(0), 1);
    }

    private static void emptyHistory() {
        Check.sentence("Returns the number of states that are left in the history; NOT_POSSIBLE if it is empty.");
        ThinVolumes x = new ThinVolumes();
        Check.due("a new object", x.undo(), Check.NOT_POSSIBLE);
        x.volume(2);
        Check.due("one state", x.count(11), 1);
        Check.due("none is left", x.undo(), 0);
        Check.due("volumes", x.count(0), 0);
        Check.due("empty", x.undo(), Check.NOT_POSSIBLE);
        Check.due("states", x.count(11), 0);
        Check.due("volumes", x.count(0), 0);
        Check.dueUnchanged("undo()", Check.NOT_POSSIBLE, ThinVolumes::new, ThinVolumes::undo);
    }

    private static void fourStates() {
        Check.sentence("A history of at most 4 states is kept: each change records everything before it but the text");
        ThinVolumes x = new ThinVolumes();
        for (int states = 0; states < 4; states++) {
            Check.due("states", x.count(11), states);
            x.volume(1 + states);
        }
        Check.due("states", x.count(11), 4);
        for (int left = 3; left >= 0; left--) {
            Check.due("undo()", x.undo(), left);
            Check.due("states", x.count(11), left);
            Check.due("volumes", x.count(0), left);
        }
        Check.due("undo()", x.undo(), Check.NOT_POSSIBLE);
    }

    private static void fifthStateDropsTheOldest() {
        Check.sentence("if there are 5 states then, the oldest one is dropped.");
        ThinVolumes x = new ThinVolumes();
        for (int volumes = 1; volumes <= 5; volumes++) {
            x.volume(2);
            Check.due("states", x.count(11), Math.min(volumes, 4));
        }
        for (int left = 3; left >= 0; left--) {
            Check.due("undo()", x.undo(), left);
            Check.due("volumes", x.count(0), left + 1);
        }
        Check.due("the oldest state is gone", x.undo(), Check.NOT_POSSIBLE);
        Check.due("volumes", x.count(0), 1);
        for (int value = 0; value < 100; value++) {
            Check.due("write(0, 0, " + value + ")", x.write(0, 0, value), 0);
            Check.due("states", x.count(11), Math.min(value + 1, 4));
        }
        for (int left = 3; left >= 0; left--) {
            Check.due("undo()", x.undo(), left);
            Check.due("value", x.read(0, 0, 0), 95 + left);
        }
        Check.due("undo()", x.undo(), Check.NOT_POSSIBLE);
    }

    private static void undoneStatesMakeRoom() {
        Check.sentence("Restores the latest state of the history, which is removed from it.");
        ThinVolumes x = Check.withVolumes(2, 2, 2, 2, 2);
        Check.due("undo()", x.undo(), 3);
        Check.due("undo()", x.undo(), 2);
        x.set(0, 7);
        Check.due("states", x.count(11), 3);
        x.set(0, 8);
        Check.due("states", x.count(11), 4);
        x.set(0, 9);
        Check.due("states", x.count(11), 4);
        Check.due("undo()", x.undo(), 3);
        Check.due("setting 0", x.count(20), 8);
        Check.due("undo()", x.undo(), 2);
        Check.due("setting 0", x.count(20), 7);
        Check.due("undo()", x.undo(), 1);
        Check.due("setting 0", x.count(20), 10);
        Check.due("volumes", x.count(0), 3);
        Check.due("undo()", x.undo(), 0);
        Check.due("volumes", x.count(0), 2);
        Check.due("undo()", x.undo(), Check.NOT_POSSIBLE);
    }

    private static void everythingButTheText() {
        Check.sentence("each change records everything before it but the text");
        int[][] rows = {{0, 1, 3, 2}, {4, 5, 6, 7}, {8, 9, 10, 0}, {10, 2, 0, 1}, {9, 7, 8, 3}};
        for (int[] row : rows) {
            ThinVolumes x = busy();
            String ahead = Check.view(x);
            for (int which : row) {
                Check.due(CHANGES[which] + " is no error", change(x, which) >= 0);
            }
            x.type('m');
            for (int left = 3; left >= 0; left--) {
                Check.due("undo()", x.undo(), left);
            }
            Check.due("four changes are taken back", Check.view(x).equals(ahead));
            Check.due("the text stays", x.count(12), 8);
            Check.due("the text stays", x.fault(0), 7);
        }
        ThinVolumes x = busy();
        x.clearText();
        x.undo();
        Check.due("an emptied text stays so", x.count(12), 0);
    }

    private static void undoOfCounts() {
        ThinVolumes x = Check.withVolumes(2, 2);
        x.write(0, 0, 1);
        x.trim(0, 0);
        x.promise(0, 30);
        x.write(1, 0, 1);
        Check.due("refusals", x.count(7), 1);
        Check.due("got", x.count(8), 1);
        Check.due("became free", x.count(9), 1);
        x.undo();
        Check.due("refusals", x.count(7), 0);
        x.undo();
        Check.due("warnings", x.count(10), 0);
        Check.due("became free", x.count(9), 1);
        x.undo();
        Check.due("became free", x.count(9), 0);
        Check.due("manners", x.volumeOf(0, 3), 50);
        Check.due("got", x.count(8), 1);
        Check.due("got by it", x.volumeOf(0, 9), 1);
        x.undo();
        Check.due("got", x.count(8), 0);
        Check.due("got by it", x.volumeOf(0, 9), 0);
    }

    private static void undoOfDroppedVolumes() {
        ThinVolumes x = busy();
        x.drop(0);
        x.drop(2);
        Check.due("the number of a dropped one", x.volume(1), 0);
        x.undo();
        x.undo();
        Check.due("promise of 2", x.volumeOf(2, 4), 2);
        Check.due("parent of 1", x.volumeOf(1, 5), Check.NOT_FOUND);
        x.undo();
        Check.due("parent of 1", x.volumeOf(1, 5), 0);
        Check.due("size of 0", x.volumeOf(0, 0), 4);
        Check.due("its pieces", x.volumeOf(0, 1), 3);
        Check.due("value", x.read(0, 2, 0), 5);
        Check.due("owners", x.pieceOf(0, 2), 3);
    }

    private static final String[] OF_A_VOLUME = {"share", "drop", "promise", "write", "trim", "sweep", "read", "volumeOf",
        "couldGet", "family", "couldFree"};

    private static int callOf(ThinVolumes x, int which, int volume) {
        switch (which) {
            case 0: return x.share(volume);
            case 1: return x.drop(volume);
            case 2: return x.promise(volume, 0);
            case 3: return x.write(volume, 0, 0);
            case 4: return x.trim(volume, 0);
            case 5: return x.sweep(volume);
            case 6: return x.read(volume, 0, 0);
            case 7: return x.volumeOf(volume, 0);
            case 8: return x.couldGet(volume);
            case 9: return x.family(volume, 0);
            default: return x.couldFree(volume);
        }
    }

    private static void noVolumeWithTheNumber() {
        Check.sentence("If there is no volume with a certain number, or no such place in it, this is INVALID_ARGUMENT.");
        int[] numbers = {1, 3, 7, 8, 9, 16, 40, LEAST, MOST, -8, -3, -2, -1};
        for (int which = 0; which < OF_A_VOLUME.length; which++) {
            int call = which;
            for (int number : numbers) {
                // couldFree() takes these two for other things.
                if (!OF_A_VOLUME[which].equals("couldFree") || number != -1 && number != -2) {
                    Check.dueUnchanged(OF_A_VOLUME[which] + " of " + number, Check.INVALID,
                        ChangeEdgesTest::withoutVolumeOne, x -> callOf(x, call, number));
                }
            }
            Check.dueUnchanged(OF_A_VOLUME[which] + " of 0 without volumes", Check.INVALID, ThinVolumes::new,
                x -> callOf(x, call, 0));
            Check.due(OF_A_VOLUME[which] + " of the first one", callOf(withoutVolumeOne(), call, 0) >= 0);
            Check.due(OF_A_VOLUME[which] + " of the last one", callOf(withoutVolumeOne(), call, 2) >= 0);
        }
    }

    private static ThinVolumes withoutVolumeOne() {
        ThinVolumes x = Check.withVolumes(2, 2, 2);
        for (int volume = 0; volume < 3; volume++) {
            x.write(volume, 0, 1);
        }
        x.drop(1);
        return x;
    }

    private static void noSuchPlaceInIt() {
        int[] sizes = {1, 3, 39, 40};
        for (int size : sizes) {
            int[] places = {-1, size, size + 1, 40, 41, LEAST, MOST, -40};
            for (int place : places) {
                Supplier<ThinVolumes> setUp = () -> withLastPlaces(size);
                String where = "(0, " + place + ") of size " + size;
                Check.dueUnchanged("write" + where, Check.INVALID, setUp, x -> x.write(0, place, 1));
                Check.dueUnchanged("trim" + where, Check.INVALID, setUp, x -> x.trim(0, place));
                Check.dueUnchanged("value of " + where, Check.INVALID, setUp, x -> x.read(0, place, 0));
                Check.dueUnchanged("piece of " + where, Check.INVALID, setUp, x -> x.read(0, place, 1));
            }
            ThinVolumes x = withLastPlaces(size);
            Check.due("the last place", x.read(0, size - 1, 0), 1);
            Check.due("the last place", x.trim(0, size - 1), 1);
            Check.due("the first place", x.read(0, 0, 0), size == 1 ? 0 : 2);
        }
    }

    /** Volumes around 0 have pieces, too, so that a place beyond it would be one that has a piece. */
    private static ThinVolumes withLastPlaces(int size) {
        ThinVolumes x = Check.withVolumes(size, 2);
        x.write(0, 0, 2);
        x.write(0, size - 1, 1);
        x.write(1, 0, 3);
        x.write(1, 1, 4);
        return x;
    }

    private static void invalidRatherThanNotPossible() {
        Check.sentence("If several errors apply to a call, INVALID_ARGUMENT is returned rather than NOT_POSSIBLE");
        ThinVolumes x = Check.withVolumes(2, 2);
        x.promise(1, 30);
        Check.due("promise(0, 1)", x.promise(0, 1), Check.NOT_POSSIBLE);
        Check.due("promise(0, 31), more than is free", x.promise(0, 31), Check.INVALID);
        Check.due("promise(2, 1), more than is free", x.promise(2, 1), Check.INVALID);
        Check.due("promise(-1, 31), more than is free", x.promise(-1, 31), Check.INVALID);
        Check.due("trim(0, 0)", x.trim(0, 0), Check.NOT_POSSIBLE);
        Check.due("trim(0, 2), which has no piece", x.trim(0, 2), Check.INVALID);
        Check.due("trim(0, -1), which has no piece", x.trim(0, -1), Check.INVALID);
        Check.due("trim(2, 0), which has no piece", x.trim(2, 0), Check.INVALID);
    }

    private static void invalidRatherThanLimitReached() {
        Check.sentence("INVALID_ARGUMENT is returned rather than NOT_POSSIBLE, NOT_POSSIBLE rather than LIMIT_REACHED");
        ThinVolumes x = Check.withVolumes(2, 2, 2, 2, 2, 2, 2, 2);
        Check.due("volume(2)", x.volume(2), Check.LIMIT);
        int[] sizes = {0, 41, -1, LEAST, MOST};
        for (int size : sizes) {
            Check.due("volume(" + size + "), the ninth", x.volume(size), Check.INVALID);
        }
        Check.due("share(7)", x.share(7), Check.LIMIT);
        int[] volumes = {8, -1, LEAST, MOST};
        for (int volume : volumes) {
            Check.due("share(" + volume + "), the ninth", x.share(volume), Check.INVALID);
        }
        Check.typeAll(x, "m;".repeat(30));
        Check.due("type('m')", x.type('m'), Check.LIMIT);
        int[] characters = {31, 127, 0, -1, LEAST, MOST};
        for (int character : characters) {
            Check.due("type(" + character + "), the 61st", x.type(character), Check.INVALID);
        }
    }

    private static void invalidRatherThanNotFound() {
        Check.sentence("and LIMIT_REACHED rather than NOT_FOUND.");
        ThinVolumes x = Check.withVolumes(2);
        int[] wrong = {-1, 10, LEAST, MOST};
        for (int what : wrong) {
            Check.due("read of a place without a piece, " + what, x.read(0, 0, what), Check.INVALID);
            Check.due("read(0, 2, " + what + ")", x.read(0, 2, what), Check.INVALID);
            Check.due("volumeOf without a parent, " + what, x.volumeOf(0, what), Check.INVALID);
            Check.due("pieceOf a free piece, " + what, x.pieceOf(0, what), Check.INVALID);
            Check.due("warningOf without warnings, " + what, x.warningOf(0, what), Check.INVALID);
            Check.due("fault without a fault, " + what, x.fault(what), Check.INVALID);
        }
        Check.due("read(0, 2, 1), no piece", x.read(0, 2, 1), Check.INVALID);
        Check.due("read(1, 0, 1), no piece", x.read(1, 0, 1), Check.INVALID);
        Check.due("volumeOf(1, 5), no parent", x.volumeOf(1, 5), Check.INVALID);
        Check.due("pieceOf(30, 0), not free either", x.pieceOf(30, 0), Check.INVALID);
        Check.due("warningOf(-1, 0), no warnings", x.warningOf(-1, 0), Check.INVALID);
        Check.due("ranked(-1), not so many", new ThinVolumes().ranked(-1), Check.INVALID);
    }

    private static void invalidRatherThanRefused() {
        Check.sentence("INVALID_ARGUMENT if an argument is out of range.");
        Supplier<ThinVolumes> full = () -> {
            ThinVolumes x = Check.withVolumes(2, 2);
            x.promise(0, 30);
            return x;
        };
        Check.due("it would be refused", full.get().write(1, 0, 0), Check.REFUSED);
        Check.dueUnchanged("write(1, 2, 0)", Check.INVALID, full, x -> x.write(1, 2, 0));
        Check.dueUnchanged("write(1, -1, 0)", Check.INVALID, full, x -> x.write(1, -1, 0));
        Check.dueUnchanged("write(1, 0, 100)", Check.INVALID, full, x -> x.write(1, 0, 100));
        Check.dueUnchanged("write(1, 0, -1)", Check.INVALID, full, x -> x.write(1, 0, -1));
        Check.dueUnchanged("write(2, 0, 0)", Check.INVALID, full, x -> x.write(2, 0, 0));
    }

    private static void errorsOfRangeChangeNothing() {
        Check.sentence("A call that returns an error changes nothing;");
        int[] wrong = {-1, LEAST, MOST, 101};
        for (int value : wrong) {
            String told = value + ")";
            dueInvalid("volume(" + told, x -> x.volume(value));
            dueInvalid("promise(0, " + told, x -> x.promise(0, value));
            dueInvalid("set(0, " + told, x -> x.set(0, value));
            dueInvalid("set(1, " + told, x -> x.set(1, value));
            dueInvalid("set(2, " + told, x -> x.set(2, value));
            dueInvalid("set " + value, x -> x.set(value, 0));
            dueInvalid("write(0, 0, " + told, x -> x.write(0, 0, value));
            dueInvalid("write(0, 3, " + told, x -> x.write(0, 3, value));
            dueInvalid("read(0, 0, " + told, x -> x.read(0, 0, value));
            dueInvalid("volumeOf(0, " + told, x -> x.volumeOf(0, value));
            dueInvalid("pieceOf(0, " + told, x -> x.pieceOf(0, value));
            dueInvalid("pieceOf(" + value + ", 0)", x -> x.pieceOf(value, 0));
            dueInvalid("warningOf(0, " + told, x -> x.warningOf(0, value));
            dueInvalid("family(0, " + told, x -> x.family(0, value));
            dueInvalid("over(" + told, x -> x.over(value));
            dueInvalid("count(" + told, x -> x.count(value));
            dueInvalid("fault(" + told, x -> x.fault(value));
        }
        // The first number beyond each range that ends ahead of 101.
        dueInvalid("volume(0)", x -> x.volume(0));
        dueInvalid("volume(41)", x -> x.volume(41));
        dueInvalid("promise(0, 31)", x -> x.promise(0, 31));
        dueInvalid("set(0, 31)", x -> x.set(0, 31));
        dueInvalid("set(1, 31)", x -> x.set(1, 31));
        dueInvalid("set(3, 0)", x -> x.set(3, 0));
        dueInvalid("write(0, 0, 100)", x -> x.write(0, 0, 100));
        dueInvalid("write(0, 4, 0)", x -> x.write(0, 4, 0));
        dueInvalid("read(0, 0, 2)", x -> x.read(0, 0, 2));
        dueInvalid("volumeOf(0, 10)", x -> x.volumeOf(0, 10));
        dueInvalid("pieceOf(0, 3)", x -> x.pieceOf(0, 3));
        dueInvalid("pieceOf(30, 0)", x -> x.pieceOf(30, 0));
        dueInvalid("warningOf(0, 3)", x -> x.warningOf(0, 3));
        dueInvalid("couldFree(-3)", x -> x.couldFree(-3));
        dueInvalid("family(0, 3)", x -> x.family(0, 3));
        dueInvalid("over(2)", x -> x.over(2));
        dueInvalid("count(13)", x -> x.count(13));
        dueInvalid("count(19)", x -> x.count(19));
        dueInvalid("count(23)", x -> x.count(23));
        dueInvalid("type(31)", x -> x.type(31));
        dueInvalid("type(127)", x -> x.type(127));
        dueInvalid("fault(2)", x -> x.fault(2));
    }

    private static void dueInvalid(String call, ToIntFunction<ThinVolumes> it) {
        Check.dueUnchanged(call, Check.INVALID, ChangeEdgesTest::busy, it);
    }

    private static void errorsOfStateChangeNothing() {
        Check.dueUnchanged("promise(0, 25)", Check.NOT_POSSIBLE, ChangeEdgesTest::busy, x -> x.promise(0, 25));
        Check.dueUnchanged("promise(2, 30)", Check.NOT_POSSIBLE, ChangeEdgesTest::busy, x -> x.promise(2, 30));
        Check.dueUnchanged("trim(0, 3)", Check.NOT_POSSIBLE, ChangeEdgesTest::busy, x -> x.trim(0, 3));
        Check.dueUnchanged("read(0, 3, 1)", Check.NOT_FOUND, ChangeEdgesTest::busy, x -> x.read(0, 3, 1));
        Check.dueUnchanged("volumeOf(0, 5)", Check.NOT_FOUND, ChangeEdgesTest::busy, x -> x.volumeOf(0, 5));
        Check.dueUnchanged("pieceOf(4, 0)", Check.NOT_FOUND, ChangeEdgesTest::busy, x -> x.pieceOf(4, 0));
        Check.dueUnchanged("warningOf(2, 0)", Check.NOT_FOUND, ChangeEdgesTest::busy, x -> x.warningOf(2, 0));
        Check.dueUnchanged("ranked(3)", Check.NOT_FOUND, ChangeEdgesTest::busy, x -> x.ranked(3));
        Check.dueUnchanged("fault(0)", Check.NOT_FOUND, ChangeEdgesTest::busy, x -> x.fault(0));
        Supplier<ThinVolumes> eight = () -> {
            ThinVolumes x = busy();
            for (int volume = 3; volume < 8; volume++) {
                x.volume(1);
            }
            x.type('x');
            return x;
        };
        Check.dueUnchanged("volume(1), the ninth", Check.LIMIT, eight, x -> x.volume(1));
        Check.dueUnchanged("share(0), the ninth", Check.LIMIT, eight, x -> x.share(0));
        Check.dueUnchanged("play() with a fault", Check.NOT_POSSIBLE, eight, ThinVolumes::play);
    }

    private static void refusedIsNoError() {
        Check.sentence("REFUSED is no error.");
        ThinVolumes x = busy();
        x.undo();
        Check.due("states", x.count(11), 3);
        Check.due("write(1, 0, 1)", x.write(1, 0, 1), Check.REFUSED);
        Check.due("states", x.count(11), 4);
        Check.due("manners", x.volumeOf(1, 3), 49);
        Check.due("its refusals", x.volumeOf(1, 8), 1);
        Check.due("all refusals", x.count(7), 1);
        Check.due("warnings", x.count(10), 2);
        Check.sentence("(then the place stays as it was)");
        Check.due("its piece", x.read(1, 0, 1), 0);
        Check.due("its value", x.read(1, 0, 0), 5);
        Check.due("owners", x.pieceOf(0, 1), 2);
        Check.due("free pieces", x.count(1), 26);
        Check.due("without a piece", x.write(1, 3, 1), Check.REFUSED);
        Check.due("it has none then", x.read(1, 3, 1), Check.NOT_FOUND);
        Check.due("its value", x.read(1, 3, 0), 0);
        Check.due("nothing was got", x.count(8), 4);
    }
}
