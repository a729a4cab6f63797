/** The edges that the sections of promises 1 to 13 and 15 to 20 name, a sentence at a time. */
public final class CallEdgesTest {
    private static final int LEAST = Integer.MIN_VALUE;
    private static final int MOST = Integer.MAX_VALUE;

    public static void main(String[] args) {
        callsOfAnObject();
        callsBeyondThem();
        newObject();
        objectsOfTheirOwn();
        volume();
        share();
        drop();
        promise();
        promiseOfWhatIsFree();
        write();
        writeRefused();
        trim();
        sweepAndMerge();
        read();
        volumeOf();
        volumeOfSets();
        piecesOfWhichItHasAllOwners();
        rankOfSeveral();
        pieceOf();
        couldGetNothingAndAll();
        couldGetByLevelOne();
        couldGetByLevelTwo();
        couldGetByLevelAhead();
        couldGetPromiseFirst();
        couldGetAtTheEndOfManners();
        couldFree();
        couldFreeNothingAndAll();
        familyOfOne();
        familyOfEight();
        familyWithOthers();
        ranked();
        over();
        count();
        countOfNothingAndAll();
        countOfDropped();
        Check.end("CallEdgesTest");
    }

    private static void callsOfAnObject() {
        Check.sentence("An object is used for at most 512 calls after it has been made");
        ThinVolumes x = Check.withVolumes(1, 1);
        x.set(1, 30);
        Check.repeat(508, "write(1, 0, 1)", Check.REFUSED, () -> x.write(1, 0, 1));
        Check.due("call 512, refusals", x.count(7), 508);
        ThinVolumes y = Check.withVolumes(1);
        for (int time = 0; time < 255; time++) {
            Check.due("write(0, 0, 1)", y.write(0, 0, 1), 0);
            Check.due("trim(0, 0)", y.trim(0, 0), 1);
        }
        Check.due("call 512, became free", y.count(9), 255);
        ThinVolumes z = new ThinVolumes();
        Check.repeat(511, "play()", 0, z::play);
        Check.due("call 512, states", z.count(11), 4);
    }

    private static void callsBeyondThem() {
        Check.sentence("what later calls answer is free.");
        ThinVolumes x = Check.withVolumes(2, 2);
        x.set(1, 30);
        Check.typeAll(x, "c0;d1;w0,1,1;w0,0,3;m;t0,1;");
        // They may answer anything, but they must end.
        for (int time = 0; time < 3000; time++) {
            x.write(1, 0, 1);
            x.write(0, 0, time % 100);
            x.trim(0, 0);
            x.play();
            x.couldFree(-2);
        }
    }

    private static void newObject() {
        Check.sentence("Creates a pool whose pieces are all free, without volumes.");
        ThinVolumes x = new ThinVolumes();
        for (int piece = 0; piece < 30; piece++) {
            for (int what = 0; what < 3; what++) {
                Check.due("pieceOf(" + piece + ", " + what + ")", x.pieceOf(piece, what), Check.NOT_FOUND);
            }
        }
        int[] due = {0, 30, 30, 0, 0, 0, 0, 0, 0, 0, 0, 0, 0};
        for (int what = 0; what < due.length; what++) {
            Check.due("count(" + what + ")", x.count(what), due[what]);
        }
        for (int volume = 0; volume < 8; volume++) {
            Check.due("volumeOf(" + volume + ", 0)", x.volumeOf(volume, 0), Check.INVALID);
        }
        Check.due("ranked(0)", x.ranked(0), Check.NOT_FOUND);
        Check.due("warningOf(0, 0)", x.warningOf(0, 0), Check.NOT_FOUND);
        Check.due("over(0)", x.over(0), 0);
        Check.due("over(1)", x.over(1), 1);
        Check.due("couldFree(-1)", x.couldFree(-1), 0);
        Check.due("couldFree(-2)", x.couldFree(-2), 0);
        Check.due("merge()", x.merge(), 0);
    }

    private static void objectsOfTheirOwn() {
        ThinVolumes x = Check.withFullPool(40, 3);
        x.set(2, 7);
        x.write(1, 0, 1);
        x.type('m');
        ThinVolumes y = new ThinVolumes();
        Check.due("another object is as new", Check.viewAndUndo(y).equals(Check.viewAndUndo(new ThinVolumes())));
        y.volume(2);
        y.write(0, 0, 9);
        Check.due("and leaves the first one", x.read(0, 0, 0), 1);
        Check.due("with its volumes", x.count(0), 2);
    }

    private static void volume() {
        Check.sentence("`size`: 1 to 40");
        int[] right = {1, 2, 39, 40};
        for (int size : right) {
            ThinVolumes x = new ThinVolumes();
            Check.due("volume(" + size + ")", x.volume(size), 0);
            Check.due("its size", x.volumeOf(0, 0), size);
            Check.due("its last place", x.read(0, size - 1, 0), 0);
            Check.due("one behind it", x.read(0, size, 0), Check.INVALID);
            Check.due("places that have pieces", x.volumeOf(0, 1), 0);
        }
        int[] wrong = {0, -1, 41, 42, -40, LEAST, MOST};
        for (int size : wrong) {
            Check.dueUnchanged("volume(" + size + ")", Check.INVALID, ThinVolumes::new, x -> x.volume(size));
        }
        Check.sentence("LIMIT_REACHED if there are 8.");
        ThinVolumes x = Check.withVolumes(1, 1, 1, 1, 1, 1, 1);
        Check.due("the eighth", x.volume(40), 7);
        Check.due("the ninth", x.volume(1), Check.LIMIT);
        Check.due("the ninth", x.volume(40), Check.LIMIT);
    }

    private static void share() {
        Check.sentence("Returns the number of the clone; INVALID_ARGUMENT; LIMIT_REACHED if there are 8.");
        ThinVolumes x = Check.withVolumes(1, 1, 1, 1, 1, 1, 1);
        Check.due("share(7), which does not live yet", x.share(7), Check.INVALID);
        Check.due("the eighth", x.share(6), 7);
        Check.due("share(7), the ninth", x.share(7), Check.LIMIT);
        Check.due("share(0), the ninth", x.share(0), Check.LIMIT);
        x.drop(3);
        Check.due("the number that is left", x.share(7), 3);
    }

    private static void drop() {
        Check.sentence("Returns how many pieces become free by it; INVALID_ARGUMENT.");
        ThinVolumes x = Check.withFullPool(40, 1);
        Check.due("drop(2)", x.drop(2), Check.INVALID);
        Check.due("none", x.drop(1), 0);
        x.share(0);
        x.trim(1, 29);
        Check.due("one of thirty", x.drop(0), 1);
        Check.due("drop(0), again", x.drop(0), Check.INVALID);
        Check.due("the others", x.drop(1), 29);
        Check.due("all", Check.withFullPool(40).drop(0), 30);
        ThinVolumes y = Check.withFullPool(40);
        y.merge();
        Check.due("thirty places, one piece", y.drop(0), 1);
    }

    private static void promise() {
        Check.sentence("`pieces`: 0 to 30");
        ThinVolumes x = Check.withVolumes(1, 1);
        Check.due("promise(0, 0)", x.promise(0, 0), 0);
        Check.due("promise(0, 1)", x.promise(0, 1), 0);
        Check.due("promise(0, 30)", x.promise(0, 30), 1);
        Check.due("promise(0, 30), again", x.promise(0, 30), 30);
        Check.due("promise(0, 0)", x.promise(0, 0), 30);
        Check.due("its promise", x.volumeOf(0, 4), 0);
        int[] wrong = {-1, 31, -30, LEAST, MOST};
        for (int pieces : wrong) {
            Check.dueUnchanged("promise(0, " + pieces + ")", Check.INVALID, () -> Check.withVolumes(1),
                y -> y.promise(0, pieces));
        }
    }

    private static void promiseOfWhatIsFree() {
        Check.sentence("NOT_POSSIBLE if more would be promised than what would be free.");
        ThinVolumes x = Check.withVolumes(5, 1);
        Check.fill(x, 0, 5, 1);
        Check.due("one more than is free", x.promise(1, 26), Check.NOT_POSSIBLE);
        Check.due("all that is free", x.promise(1, 25), 0);
        Check.due("one more of another one", x.promise(0, 1), Check.NOT_POSSIBLE);
        Check.due("none of another one", x.promise(0, 0), 0);
        Check.due("what it was does not count", x.promise(1, 25), 25);
        Check.due("one more", x.promise(1, 26), Check.NOT_POSSIBLE);
        Check.due("one less", x.promise(1, 24), 25);
        Check.due("which another one can have", x.promise(0, 1), 0);
        Check.due("but no second one", x.promise(0, 2), Check.NOT_POSSIBLE);
        x.trim(0, 0);
        Check.due("one is free more", x.promise(0, 2), 1);
        ThinVolumes y = Check.withFullPool(40);
        Check.due("a full pool", y.promise(0, 1), Check.NOT_POSSIBLE);
        Check.due("none in a full pool", y.promise(0, 0), 0);
        y.merge();
        Check.due("a merged pool", y.promise(0, 30), Check.NOT_POSSIBLE);
        Check.due("a merged pool", y.promise(0, 29), 0);
    }

    private static void write() {
        Check.sentence("`value`: 0 to 99");
        ThinVolumes x = Check.withVolumes(3);
        int[] right = {0, 1, 98, 99};
        for (int value : right) {
            Check.due("write(0, 1, " + value + ")", x.write(0, 1, value), 0);
            Check.due("read(0, 1, 0)", x.read(0, 1, 0), value);
        }
        int[] wrong = {-1, 100, 101, -99, LEAST, MOST};
        for (int value : wrong) {
            Check.due("write(0, 1, " + value + ")", x.write(0, 1, value), Check.INVALID);
            Check.due("write(0, 2, " + value + ")", x.write(0, 2, value), Check.INVALID);
        }
        Check.due("the value stays", x.read(0, 1, 0), 99);
        Check.due("no piece is got", x.count(8), 1);
    }

    private static void writeRefused() {
        Check.sentence("REFUSED if it needs one and does not get it (then the place stays as it was);");
        ThinVolumes x = Check.withFullPool(40, 2);
        x.share(0);
        Check.due("a place without a piece", x.write(0, 30, 7), Check.REFUSED);
        Check.due("it has none", x.read(0, 30, 1), Check.NOT_FOUND);
        Check.due("a shared piece", x.write(0, 29, 7), Check.REFUSED);
        Check.due("it keeps it", x.read(0, 29, 1), 29);
        Check.due("with its value", x.read(0, 29, 0), 1);
        Check.due("and its owners", x.pieceOf(29, 1), 2);
        Check.due("the value that it has", x.write(2, 29, 1), Check.REFUSED);
        x.trim(2, 29);
        Check.due("it needs none", x.write(0, 29, 7), 29);
        Check.due("the free one", x.write(0, 30, 1), Check.REFUSED);
    }

    private static void trim() {
        Check.sentence("Returns 1 if a piece becomes free by it, otherwise 0; INVALID_ARGUMENT if an argument is out of "
            + "range; NOT_POSSIBLE if it has no piece.");
        ThinVolumes x = Check.withVolumes(40, 1);
        Check.due("no piece yet", x.trim(0, 39), Check.NOT_POSSIBLE);
        x.write(0, 39, 0);
        x.write(0, 0, 0);
        Check.due("value 0 is a piece, too", x.trim(0, 39), 1);
        Check.due("no piece any more", x.trim(0, 39), Check.NOT_POSSIBLE);
        x.share(0);
        Check.due("one of two owners", x.trim(2, 0), 0);
        Check.due("no piece any more", x.trim(2, 0), Check.NOT_POSSIBLE);
        Check.due("the last owner", x.trim(0, 0), 1);
        Check.due("trim(1, 0)", x.trim(1, 0), Check.NOT_POSSIBLE);
        Check.due("trim(1, 1)", x.trim(1, 1), Check.INVALID);
    }

    private static void sweepAndMerge() {
        Check.sentence("Returns how many pieces become free by it");
        ThinVolumes x = Check.withVolumes(9);
        x.write(0, 0, 0);
        x.write(0, 1, 0);
        x.write(0, 2, 0);
        x.write(0, 3, 4);
        Check.due("merge(): two of three", x.merge(), 2);
        Check.due("sweep(0): three places, one piece", x.sweep(0), 1);
        Check.due("sweep(0): none", x.sweep(0), 0);
        Check.due("merge(): none", x.merge(), 0);
        x.write(0, 0, 0);
        x.share(0);
        Check.due("sweep(0): shared", x.sweep(0), 0);
        Check.due("sweep(1): the last owner", x.sweep(1), 1);
        Check.due("sweep(2)", x.sweep(2), Check.INVALID);
        Check.due("became free, all together", x.count(9), 4);
    }

    private static void read() {
        Check.sentence("NOT_FOUND for 1 if it has no piece.");
        ThinVolumes x = Check.withVolumes(40);
        x.write(0, 39, 0);
        Check.due("value of a place without a piece", x.read(0, 0, 0), 0);
        Check.due("piece of a place without a piece", x.read(0, 0, 1), Check.NOT_FOUND);
        Check.due("value 0 of a piece", x.read(0, 39, 0), 0);
        Check.due("piece 0", x.read(0, 39, 1), 0);
        Check.due("piece 29", Check.withFullPool(40).read(0, 29, 1), 29);
        int[] wrong = {-1, 2, LEAST, MOST};
        for (int what : wrong) {
            Check.due("read(0, 39, " + what + ")", x.read(0, 39, what), Check.INVALID);
            Check.due("read(0, 0, " + what + ")", x.read(0, 0, what), Check.INVALID);
        }
    }

    private static void volumeOf() {
        Check.sentence("Returns the number; INVALID_ARGUMENT if an argument is out of range; NOT_FOUND for 5 if it has none.");
        ThinVolumes x = Check.withVolumes(40);
        int[] due = {40, 0, 0, 50, 0, Check.NOT_FOUND, 0, 0, 0, 0};
        for (int what = 0; what < due.length; what++) {
            Check.due("volumeOf(0, " + what + ")", x.volumeOf(0, what), due[what]);
        }
        int[] wrong = {-1, 10, 11, 20, LEAST, MOST};
        for (int what : wrong) {
            Check.due("volumeOf(0, " + what + ")", x.volumeOf(0, what), Check.INVALID);
        }
        x.share(0);
        Check.due("parent 0", x.volumeOf(1, 5), 0);
        x.drop(0);
        Check.due("no parent any more", x.volumeOf(1, 5), Check.NOT_FOUND);
        x.volume(2);
        Check.due("nor the new volume 0", x.volumeOf(1, 5), Check.NOT_FOUND);
        ThinVolumes y = Check.withVolumes(1, 1, 1, 1, 1, 1, 1, 1);
        y.drop(0);
        y.share(7);
        Check.due("parent 7", y.volumeOf(0, 5), 7);
        Check.due("whose clone 0 is", y.volumeOf(7, 6), 1);
        Check.due("and in its family", y.family(7, 0), 129);
        Check.due("one behind it", y.family(7, 2), 1);
        y.drop(7);
        Check.due("no parent any more", y.volumeOf(0, 5), Check.NOT_FOUND);
    }

    private static void volumeOfSets() {
        Check.sentence("6: its clones that live, as a set;");
        ThinVolumes x = Check.withVolumes(2);
        Check.due("none", x.volumeOf(0, 6), 0);
        for (int clone = 1; clone < 8; clone++) {
            x.share(0);
        }
        Check.due("seven", x.volumeOf(0, 6), 254);
        x.drop(7);
        Check.due("six that live", x.volumeOf(0, 6), 126);
        x.volume(2);
        Check.due("the new 7 is none", x.volumeOf(0, 6), 126);
        x.drop(1);
        x.share(7);
        Check.due("clone 1 of 7", x.volumeOf(7, 6), 2);
        Check.due("the others of 0", x.volumeOf(0, 6), 124);
        x.share(1);
        Check.due("no more", x.count(0), 8);
        x.drop(2);
        x.share(1);
        Check.due("a clone's clone is none", x.volumeOf(7, 6), 2);
        Check.due("but of the clone", x.volumeOf(1, 6), 4);
    }

    private static void piecesOfWhichItHasAllOwners() {
        Check.sentence("1: places that have pieces; 2: pieces of which it has all owners;");
        ThinVolumes x = Check.withFullPool(40, 1);
        Check.due("places", x.volumeOf(0, 1), 30);
        Check.due("pieces", x.volumeOf(0, 2), 30);
        Check.due("places of the other one", x.volumeOf(1, 1), 0);
        Check.due("pieces of the other one", x.volumeOf(1, 2), 0);
        x.share(0);
        Check.due("all are shared", x.volumeOf(0, 2), 0);
        x.trim(2, 0);
        Check.due("but one", x.volumeOf(0, 2), 1);
        x.drop(2);
        x.merge();
        Check.due("places on one piece", x.volumeOf(0, 1), 30);
        Check.due("one piece", x.volumeOf(0, 2), 1);
        x.write(1, 0, 1);
        x.merge();
        Check.due("with an owner elsewhere", x.volumeOf(0, 2), 0);
    }

    private static void rankOfSeveral() {
        Check.sentence("7: its rank (0 for the best manners of all, of several the lowest number first);");
        ThinVolumes x = Check.withVolumes(2, 2, 2, 2, 2, 2, 2, 2);
        for (int volume = 0; volume < 8; volume++) {
            Check.due("rank of " + volume, x.volumeOf(volume, 7), volume);
            Check.due("ranked(" + volume + ")", x.ranked(volume), volume);
        }
        x.write(7, 0, 1);
        x.trim(7, 0);
        x.promise(6, 30);
        x.write(0, 0, 1);
        int[] due = {7, 1, 2, 3, 4, 5, 6, 0};
        for (int volume = 0; volume < 8; volume++) {
            Check.due("rank of " + volume, x.volumeOf(volume, 7), due[volume]);
            Check.due("ranked(" + due[volume] + ")", x.ranked(due[volume]), volume);
        }
        x.drop(7);
        Check.due("rank of 1", x.volumeOf(1, 7), 0);
        Check.due("rank of 0", x.volumeOf(0, 7), 6);
    }

    private static void pieceOf() {
        Check.sentence("`piece`: 0 to 29");
        ThinVolumes x = Check.withFullPool(40, 1);
        int[] right = {0, 1, 28, 29};
        for (int piece : right) {
            Check.due("pieceOf(" + piece + ", 0)", x.pieceOf(piece, 0), 1);
            Check.due("pieceOf(" + piece + ", 1)", x.pieceOf(piece, 1), 1);
            Check.due("pieceOf(" + piece + ", 2)", x.pieceOf(piece, 2), 1);
        }
        int[] wrong = {-1, 30, 31, LEAST, MOST};
        for (int piece : wrong) {
            for (int what = 0; what < 3; what++) {
                Check.due("pieceOf(" + piece + ", " + what + ")", x.pieceOf(piece, what), Check.INVALID);
            }
        }
        int[] wrongWhat = {-1, 3, LEAST, MOST};
        for (int what : wrongWhat) {
            Check.due("pieceOf(29, " + what + ")", x.pieceOf(29, what), Check.INVALID);
        }
        Check.sentence("NOT_FOUND if it is free.");
        x.trim(0, 29);
        for (int what = 0; what < 3; what++) {
            Check.due("pieceOf(29, " + what + ")", x.pieceOf(29, what), Check.NOT_FOUND);
        }
        Check.sentence("Sets are told as bits: bit k is for number k.");
        ThinVolumes y = Check.withVolumes(1, 1, 1, 1, 1, 1, 1, 1);
        y.write(7, 0, 0);
        Check.due("only volume 7", y.pieceOf(0, 2), 128);
        y.write(0, 0, 0);
        y.merge();
        Check.due("volumes 0 and 7", y.pieceOf(0, 2), 129);
    }

    private static void couldGetNothingAndAll() {
        Check.sentence("Tells how many pieces a volume would get, one after the other, until it is refused, if nothing "
            + "else happened");
        ThinVolumes x = Check.withVolumes(1, 1);
        x.set(0, 0);
        x.set(1, 0);
        Check.due("all, though it has one place", x.couldGet(0), 30);
        Check.due("all for the other one", x.couldGet(1), 30);
        x.write(0, 0, 1);
        Check.due("one less, though its place has one", x.couldGet(0), 29);
        x.promise(1, 29);
        Check.due("nothing is available", x.couldGet(0), 0);
        Check.due("all are promised", x.couldGet(1), 29);
        ThinVolumes y = Check.withFullPool(40);
        Check.due("a full pool", y.couldGet(0), 0);
        Check.dueUnchanged("couldGet(0)", 24, () -> Check.withVolumes(3, 3), z -> z.couldGet(0));
    }

    private static void couldGetByLevelOne() {
        Check.sentence("(with its manners getting worse, and its promise used first)");
        int[][] rows = {{51, 0}, {50, 1}, {48, 1}, {47, 2}, {45, 2}, {44, 3}, {1, 17}, {0, 30}, {100, 0}};
        for (int[] row : rows) {
            ThinVolumes x = Check.withVolumes(1);
            x.set(0, 30);
            x.set(1, 0);
            x.set(2, row[0]);
            Check.due("couldGet(0) with setting 2 = " + row[0], x.couldGet(0), row[1]);
        }
    }

    private static void couldGetByLevelTwo() {
        ThinVolumes x = Check.withVolumes(1, 1);
        x.write(1, 0, 1);
        x.trim(1, 0);
        x.write(1, 0, 1);
        x.trim(1, 0);
        x.set(1, 30);
        Check.due("50 against 54", x.couldGet(0), 0);
        Check.due("54 and 51 against 50, then 48", x.couldGet(1), 2);
        x.promise(1, 30);
        x.write(0, 0, 1);
        x.promise(1, 0);
        x.promise(0, 30);
        x.write(1, 0, 1);
        x.promise(0, 0);
        Check.due("53 and 50 against 49, then 47", x.couldGet(1), 2);
        x.write(1, 0, 1);
        Check.due("50 against 49, then 47", x.couldGet(1), 1);
        Check.due("49 against 50", x.couldGet(0), 0);
        x.drop(1);
        Check.due("alone", x.couldGet(0), 30);
        ThinVolumes y = Check.withVolumes(1, 1);
        y.set(1, 30);
        Check.due("of two with 50 it is 0, once", y.couldGet(0), 1);
        Check.due("of two with 50 it is not 1", y.couldGet(1), 0);
        y.write(0, 0, 0);
        y.sweep(0);
        Check.due("50 against 49 of 0, then 47", y.couldGet(1), 1);
    }

    private static void couldGetByLevelAhead() {
        ThinVolumes x = Check.withVolumes(1);
        x.set(0, 29);
        x.set(1, 0);
        x.set(2, 50);
        Check.due("one at level 0, one with 50 at level 1", x.couldGet(0), 2);
        x.set(0, 20);
        Check.due("ten at level 0, one at level 1", x.couldGet(0), 11);
        x.set(2, 48);
        Check.due("47 are less than 48", x.couldGet(0), 11);
        x.set(2, 47);
        Check.due("47 are enough", x.couldGet(0), 12);
        x.set(0, 0);
        x.set(1, 29);
        x.volume(1);
        Check.due("one at level 0, one with 50 at level 2", x.couldGet(0), 2);
        Check.due("one at level 0, none at level 2", x.couldGet(1), 1);
        x.set(0, 3);
        x.set(1, 2);
        x.set(2, 100);
        Check.due("27 at level 0, none at level 1", x.couldGet(0), 27);
    }

    private static void couldGetPromiseFirst() {
        ThinVolumes x = Check.withVolumes(1, 1);
        x.set(1, 30);
        x.promise(1, 1);
        Check.due("the promised one", x.couldGet(1), 1);
        x.promise(1, 30);
        Check.due("thirty promised ones", x.couldGet(1), 30);
        x.promise(1, 29);
        Check.due("for another one the last one", x.couldGet(0), 1);
        x.promise(0, 1);
        Check.due("its promise", x.couldGet(0), 1);
        x.promise(1, 27);
        Check.due("its promise, and one at level 2", x.couldGet(0), 2);
        Check.due("its promise stays", x.volumeOf(0, 4), 1);
        Check.due("its manners stay", x.volumeOf(0, 3), 50);
        x.promise(1, 0);
        x.set(1, 0);
        x.set(0, 30);
        x.set(2, 50);
        x.promise(0, 5);
        Check.due("five promised ones leave its manners", x.couldGet(0), 6);
    }

    private static void couldGetAtTheEndOfManners() {
        ThinVolumes x = Check.withVolumes(20, 20);
        x.set(1, 30);
        Check.repeat(50, "write(1, 0, 1)", Check.REFUSED, () -> x.write(1, 0, 1));
        Check.due("17 until 0, then 0 is the lowest number", x.couldGet(0), 30);
        Check.due("0 against 50", x.couldGet(1), 0);
        x.drop(0);
        Check.due("alone with 0", x.couldGet(1), 30);
        x.volume(1);
        x.set(1, 0);
        x.set(0, 30);
        x.set(2, 0);
        Check.due("0 are at least 0", x.couldGet(1), 30);
        x.set(2, 1);
        Check.due("0 are less than 1", x.couldGet(1), 0);
    }

    private static void couldFree() {
        Check.sentence("INVALID_ARGUMENT if there is no such volume and it is neither -1 nor -2.");
        ThinVolumes x = Check.withVolumes(9, 9, 9, 9, 9, 9, 9, 9);
        x.write(0, 0, 0);
        x.write(7, 8, 0);
        x.write(7, 7, 3);
        x.write(0, 8, 3);
        Check.due("couldFree(0)", x.couldFree(0), 1);
        Check.due("couldFree(7)", x.couldFree(7), 1);
        Check.due("couldFree(1)", x.couldFree(1), 0);
        Check.due("couldFree(-1)", x.couldFree(-1), 2);
        Check.due("couldFree(-2)", x.couldFree(-2), 3);
        int[] wrong = {-3, -4, 8, 9, LEAST, MOST};
        for (int volume : wrong) {
            Check.due("couldFree(" + volume + ")", x.couldFree(volume), Check.INVALID);
        }
        x.drop(7);
        Check.due("couldFree(7), dropped", x.couldFree(7), Check.INVALID);
        Check.due("couldFree(-2)", x.couldFree(-2), 1);
        Check.due("couldFree(-1)", x.couldFree(-1), 0);
    }

    private static void couldFreeNothingAndAll() {
        Check.sentence("-1: merging; -2: all volumes being swept, then merging");
        ThinVolumes x = Check.withFullPool(40, 1);
        Check.due("couldFree(0)", x.couldFree(0), 0);
        Check.due("couldFree(-1)", x.couldFree(-1), 29);
        Check.due("couldFree(-2)", x.couldFree(-2), 29);
        for (int place = 0; place < 30; place++) {
            x.write(0, place, 0);
        }
        Check.due("couldFree(0)", x.couldFree(0), 30);
        Check.due("couldFree(-1)", x.couldFree(-1), 29);
        Check.due("couldFree(-2)", x.couldFree(-2), 30);
        x.share(0);
        Check.due("couldFree(0), shared", x.couldFree(0), 0);
        Check.due("couldFree(-2), shared", x.couldFree(-2), 30);
        x.merge();
        Check.due("couldFree(-1), merged", x.couldFree(-1), 0);
        Check.due("couldFree(-2), merged", x.couldFree(-2), 1);
        Check.due("couldFree(0), merged", x.couldFree(0), 0);
        x.drop(2);
        Check.due("couldFree(0), all owners", x.couldFree(0), 1);
        ThinVolumes y = new ThinVolumes();
        Check.due("couldFree(-1) without volumes", y.couldFree(-1), 0);
        Check.due("couldFree(-2) without volumes", y.couldFree(-2), 0);
        int[] calls = {0, -1, -2};
        int[] due = {1, 2, 3};
        for (int call = 0; call < calls.length; call++) {
            int volume = calls[call];
            Check.dueUnchanged("couldFree(" + volume + ")", due[call], CallEdgesTest::reclaimable,
                z -> z.couldFree(volume));
        }
    }

    private static ThinVolumes reclaimable() {
        ThinVolumes x = Check.withVolumes(3, 3);
        x.write(0, 0, 0);
        x.write(1, 0, 0);
        x.write(0, 1, 3);
        x.write(1, 1, 3);
        return x;
    }

    private static void familyOfOne() {
        Check.sentence("2: the most clones one behind the other (0 without clones)");
        ThinVolumes x = Check.withVolumes(9, 9);
        Check.due("set", x.family(1, 0), 2);
        Check.due("pieces", x.family(1, 1), 0);
        Check.due("without clones", x.family(1, 2), 0);
        int[] wrong = {-1, 3, LEAST, MOST};
        for (int what : wrong) {
            Check.due("family(1, " + what + ")", x.family(1, what), Check.INVALID);
        }
        x.share(1);
        Check.due("set", x.family(1, 0), 6);
        Check.due("one clone", x.family(1, 2), 1);
        Check.due("the clone's", x.family(2, 2), 0);
        x.share(1);
        x.share(1);
        Check.due("three beside each other", x.family(1, 2), 1);
        x.drop(2);
        x.drop(3);
        x.drop(4);
        Check.due("set", x.family(1, 0), 2);
        Check.due("without clones again", x.family(1, 2), 0);
    }

    private static void familyOfEight() {
        Check.sentence("0: the set of these volumes; 1: pieces that are owned by them alone; "
            + "2: the most clones one behind the other");
        ThinVolumes x = Check.withVolumes(3);
        x.write(0, 0, 1);
        for (int volume = 0; volume < 7; volume++) {
            x.share(volume);
        }
        for (int volume = 0; volume < 8; volume++) {
            Check.due("set of " + volume, x.family(volume, 0), 255 - ((1 << volume) - 1));
            Check.due("clones behind " + volume, x.family(volume, 2), 7 - volume);
            Check.due("pieces of " + volume, x.family(volume, 1), volume == 0 ? 1 : 0);
        }
        x.write(7, 0, 2);
        for (int volume = 0; volume < 8; volume++) {
            Check.due("pieces of " + volume, x.family(volume, 1), volume == 0 ? 2 : 1);
        }
        x.drop(4);
        Check.due("set of 3", x.family(3, 0), 232);
        Check.due("clones behind 3", x.family(3, 2), 3);
        Check.due("clones behind 0", x.family(0, 2), 6);
        x.share(7);
        Check.due("a clone with a lower number", x.family(7, 0), 144);
        Check.due("clones behind 0", x.family(0, 2), 7);
    }

    private static void familyWithOthers() {
        Check.sentence("1: pieces that are owned by them alone;");
        ThinVolumes x = Check.withVolumes(30, 3);
        x.set(0, 0);
        x.set(1, 0);
        x.write(1, 0, 50);
        for (int place = 0; place < 29; place++) {
            x.write(0, place, place);
        }
        x.share(0);
        Check.due("all but one", x.family(0, 1), 29);
        Check.due("the one", x.family(1, 1), 1);
        Check.due("none alone", x.family(2, 1), 0);
        x.write(1, 0, 0);
        x.merge();
        Check.due("one has an owner elsewhere", x.family(0, 1), 28);
        Check.due("for the other one, too", x.family(1, 1), 0);
        Check.due("free pieces are nobody's", x.count(1), 1);
        x.trim(1, 0);
        Check.due("it has no owner elsewhere any more", x.family(0, 1), 29);
    }

    private static void ranked() {
        Check.sentence("INVALID_ARGUMENT if rank is negative; NOT_FOUND if there are not so many volumes.");
        ThinVolumes x = new ThinVolumes();
        for (int volumes = 0; volumes <= 8; volumes++) {
            Check.due("ranked(-1)", x.ranked(-1), Check.INVALID);
            Check.due("ranked(LEAST)", x.ranked(LEAST), Check.INVALID);
            if (volumes > 0) {
                Check.due("the last rank", x.ranked(volumes - 1), volumes - 1);
            }
            Check.due("one behind it", x.ranked(volumes), Check.NOT_FOUND);
            Check.due("ranked(8)", x.ranked(8), Check.NOT_FOUND);
            Check.due("ranked(MOST)", x.ranked(MOST), Check.NOT_FOUND);
            x.volume(1);
        }
        x.drop(0);
        Check.due("ranked(0)", x.ranked(0), 1);
        Check.due("ranked(6)", x.ranked(6), 7);
        Check.due("ranked(7)", x.ranked(7), Check.NOT_FOUND);
    }

    private static void over() {
        Check.sentence("the sizes of all volumes together, divided by 30, in lowest terms (0 over 1 without volumes).");
        for (int size = 1; size <= 40; size++) {
            ThinVolumes x = Check.withVolumes(size);
            int divisor = java.math.BigInteger.valueOf(size).gcd(java.math.BigInteger.valueOf(30)).intValue();
            Check.due("over(0) of " + size, x.over(0), size / divisor);
            Check.due("over(1) of " + size, x.over(1), 30 / divisor);
        }
        int[][] rows = {{0, 1}, {4, 3}, {8, 3}, {4, 1}, {16, 3}, {20, 3}, {8, 1}, {28, 3}, {32, 3}};
        ThinVolumes x = new ThinVolumes();
        for (int[] row : rows) {
            Check.due("over(0)", x.over(0), row[0]);
            Check.due("over(1)", x.over(1), row[1]);
            x.volume(40);
        }
        for (int volume = 0; volume < 8; volume++) {
            x.drop(volume);
        }
        Check.due("over(0) without volumes", x.over(0), 0);
        Check.due("over(1) without volumes", x.over(1), 1);
        int[] wrong = {-1, 2, LEAST, MOST};
        for (int part : wrong) {
            Check.due("over(" + part + ")", x.over(part), Check.INVALID);
        }
        ThinVolumes y = Check.withVolumes(30);
        Check.due("over(0) of 30", y.over(0), 1);
        Check.due("over(1) of 30", y.over(1), 1);
    }

    private static void count() {
        Check.sentence("Returns the number; INVALID_ARGUMENT if what is out of range.");
        int[] right = {0, 1, 2, 3, 4, 5, 6, 7, 8, 9, 10, 11, 12, 20, 21, 22};
        ThinVolumes x = Check.withVolumes(3);
        for (int what : right) {
            Check.due("count(" + what + ") is a number", x.count(what) >= 0);
        }
        int[] wrong = {-1, 13, 14, 15, 16, 17, 18, 19, 23, 24, 100, LEAST, MOST};
        for (int what : wrong) {
            Check.due("count(" + what + ")", x.count(what), Check.INVALID);
        }
    }

    private static void countOfNothingAndAll() {
        Check.sentence("0: volumes; 1: free pieces; 2: what is available; 3: the level; 4: all promises; 5: places that "
            + "have pieces, of all volumes; 6: pieces with more than one owner");
        ThinVolumes x = Check.withVolumes(40, 40, 40, 40, 40, 40, 40);
        int[] ahead = {7, 30, 30, 0, 0, 0, 0};
        for (int what = 0; what < ahead.length; what++) {
            Check.due("count(" + what + ")", x.count(what), ahead[what]);
        }
        x.promise(6, 30);
        int[] promised = {7, 30, 0, 2, 30, 0, 0};
        for (int what = 0; what < promised.length; what++) {
            Check.due("count(" + what + ")", x.count(what), promised[what]);
        }
        for (int place = 0; place < 30; place++) {
            x.write(6, place, 1);
        }
        x.share(6);
        int[] full = {8, 0, 0, 2, 0, 60, 30, 0, 30, 0};
        for (int what = 0; what < full.length; what++) {
            Check.due("count(" + what + ")", x.count(what), full[what]);
        }
        for (int left = 30; left > 0; left--) {
            Check.due("pieces with more than one owner", x.count(6), left);
            x.trim(6 + left % 2, left - 1);
        }
        Check.due("each has one owner", x.count(6), 0);
        Check.due("places that have pieces", x.count(5), 30);
    }

    private static void countOfDropped() {
        Check.sentence("7: refusals so far; 8: pieces got so far; 9: pieces that became free so far (7 to 9 of volumes that "
            + "were dropped, too);");
        ThinVolumes x = Check.withVolumes(9, 9);
        x.set(1, 30);
        x.write(1, 0, 1);
        x.write(0, 0, 1);
        x.write(0, 1, 1);
        x.write(1, 1, 1);
        x.trim(1, 1);
        x.drop(1);
        Check.due("refusals", x.count(7), 2);
        Check.due("got", x.count(8), 2);
        Check.due("became free", x.count(9), 1);
        x.drop(0);
        Check.due("refusals", x.count(7), 2);
        Check.due("got", x.count(8), 2);
        Check.due("became free", x.count(9), 2);
        x.volume(9);
        x.write(0, 0, 1);
        Check.due("got", x.count(8), 3);
        Check.due("got by the new one", x.volumeOf(0, 9), 1);
        Check.due("refusals of the new one", x.volumeOf(0, 8), 0);
    }
}
