import java.util.function.IntSupplier;
import java.util.function.Supplier;
import java.util.function.ToIntFunction;

/** What the tests share: it counts and prints the answers that are not due. */
final class Check {
    static final int INVALID = -1000001;
    static final int NOT_POSSIBLE = -1000002;
    static final int LIMIT = -1000003;
    static final int NOT_FOUND = -1000004;
    static final int REFUSED = -1000005;

    private static int wrong = 0;
    private static String told = "";

    private Check() {
    }

    /** The sentence of the document that the answers from here on are due by. */
    static void sentence(String words) {
        told = "\"" + words + "\": ";
    }

    static void due(String call, long got, long want) {
        if (got != want) {
            wrong++;
            System.out.println(told + call + " answered " + got + ", due is " + want);
        }
    }

    static void due(String what, boolean holds) {
        if (!holds) {
            wrong++;
            System.out.println(told + what + " does not hold");
        }
    }

    /** A new object with volumes of these sizes. */
    static ThinVolumes withVolumes(int... sizes) {
        ThinVolumes x = new ThinVolumes();
        for (int number = 0; number < sizes.length; number++) {
            due("volume(" + sizes[number] + ")", x.volume(sizes[number]), number);
        }
        return x;
    }

    /** Volumes of these sizes, of which volume 0 has all pieces, with value 1: piece k is at its place k. */
    static ThinVolumes withFullPool(int... sizes) {
        ThinVolumes x = withVolumes(sizes);
        due("set(0, 0)", x.set(0, 0), 10);
        due("set(1, 0)", x.set(1, 0), 4);
        fill(x, 0, 30, 1);
        due("free pieces", x.count(1), 0);
        return x;
    }

    /** Writes a value to places 0 to count - 1, each of which gets a piece of its own. */
    static void fill(ThinVolumes x, int volume, int count, int value) {
        for (int place = 0; place < count; place++) {
            due("write(" + volume + ", " + place + ", " + value + ") gets a piece",
                x.write(volume, place, value) >= 0);
        }
    }

    static void typeAll(ThinVolumes x, String orders) {
        int length = x.count(12);
        for (int at = 0; at < orders.length(); at++) {
            due("type of '" + orders.charAt(at) + "'", x.type(orders.charAt(at)), length + at + 1);
        }
    }

    static void newText(ThinVolumes x, String orders) {
        x.clearText();
        typeAll(x, orders);
        due("length of " + orders, x.count(12), orders.length());
    }

    /** The fault of the text; position and reason are NOT_FOUND when it has none. */
    static void dueFault(ThinVolumes x, String orders, int position, int reason) {
        newText(x, orders);
        due("fault(0) of " + orders, x.fault(0), position);
        due("fault(1) of " + orders, x.fault(1), reason);
    }

    /** Does a call as often as it is told; each time the answer must be the same. */
    static void repeat(int times, String call, int want, IntSupplier it) {
        for (int time = 1; time <= times; time++) {
            due(call + ", time " + time, it.getAsInt(), want);
        }
    }

    /**
     * All that can be asked of an object but its history and its text. It takes some 200 calls and one more for each
     * place, so that two of them fit into the 512 calls of an object.
     */
    static String view(ThinVolumes x) {
        StringBuilder view = new StringBuilder();
        for (int what = 0; what <= 10; what++) {
            view.append(x.count(what)).append(' ');
        }
        for (int what = 20; what <= 22; what++) {
            view.append(x.count(what)).append(' ');
        }
        for (int volume = 0; volume < 8; volume++) {
            viewVolume(x, volume, view);
        }
        for (int piece = 0; piece < 30; piece++) {
            view.append(x.pieceOf(piece, 0)).append(' ').append(x.pieceOf(piece, 1)).append(' ');
        }
        int warnings = x.count(10);
        for (int index = 0; index < warnings; index++) {
            for (int what = 0; what < 3; what++) {
                view.append(x.warningOf(index, what)).append(' ');
            }
        }
        return view.toString();
    }

    private static void viewVolume(ThinVolumes x, int volume, StringBuilder view) {
        int size = x.volumeOf(volume, 0);
        view.append(size).append(' ');
        for (int what = 1; size > 0 && what <= 9; what++) {
            view.append(x.volumeOf(volume, what)).append(' ');
        }
        for (int place = 0; place < size; place++) {
            view.append(x.read(volume, place, 1)).append(' ');
        }
    }

    /** What can be asked of an object, of its text, and of the state that it goes back to. It changes the object. */
    static String viewAndUndo(ThinVolumes x) {
        StringBuilder view = new StringBuilder(view(x));
        view.append(x.count(11)).append(' ').append(x.count(12)).append(' ');
        view.append(x.fault(0)).append(' ').append(x.fault(1)).append(' ');
        return view.append(x.undo()).append(' ').append(view(x)).toString();
    }

    /** The call answers this and leaves an object, its text and its history as one that it never came to. */
    static void dueUnchanged(String call, int want, Supplier<ThinVolumes> setUp, ToIntFunction<ThinVolumes> it) {
        ThinVolumes x = setUp.get();
        due(call, it.applyAsInt(x), want);
        due(call + " changes nothing", viewAndUndo(x).equals(viewAndUndo(setUp.get())));
    }

    static void end(String test) {
        System.out.println(test + ": " + (wrong == 0 ? "all answers are as due" : wrong + " wrong"));
        if (wrong != 0) {
            System.exit(1);
        }
    }
}
