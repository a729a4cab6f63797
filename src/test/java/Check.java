/** What the tests share: it counts and prints the answers that are not due. */
final class Check {
    static final int INVALID = -1000001;
    static final int NOT_POSSIBLE = -1000002;
    static final int LIMIT = -1000003;
    static final int NOT_FOUND = -1000004;
    static final int REFUSED = -1000005;

    private static int wrong = 0;

    private Check() {
    }

    static void due(String call, long got, long want) {
        if (got != want) {
            wrong++;
            System.out.println(call + " answered " + got + ", due is " + want);
        }
    }

    static void due(String what, boolean holds) {
        if (!holds) {
            wrong++;
            System.out.println(what + " does not hold");
        }
    }

    /** A new object with volumes of these sizes. */
    static ThinVolumes withVolumes(int... sizes) {
        ThinVolumes x = new ThinVolumes();
        for (int number = 0; number < sizes.length; number++) {
            due("volume(" + sizes[number] + ")", x.volume(sizes[number]), number);
        }
        return x;
    }

    /** Writes a value to places 0 to count - 1, each of which gets a piece of its own. */
    static void fill(ThinVolumes x, int volume, int count, int value) {
        for (int place = 0; place < count; place++) {
            due("write(" + volume + ", " + place + ", " + value + ") gets a piece",
                x.write(volume, place, value) >= 0);
        }
    }

    static void typeAll(ThinVolumes x, String orders) {
        for (int at = 0; at < orders.length(); at++) {
            due("type of '" + orders.charAt(at) + "'", x.type(orders.charAt(at)), x.count(12));
        }
    }

    static void newText(ThinVolumes x, String orders) {
        x.clearText();
        typeAll(x, orders);
        due("length of " + orders, x.count(12), orders.length());
    }

    /** The fault of the text; position and reason are NOT_FOUND when it has none. */
    static void dueFault(ThinVolumes x, String orders, int position, int reason) {
        newText(x, orders);
        due("fault(0) of " + orders, x.fault(0), position);
        due("fault(1) of " + orders, x.fault(1), reason);
    }

    /** All that can be asked of an object but its history and its text. */
    static String view(ThinVolumes x) {
        StringBuilder view = new StringBuilder();
        for (int what = 0; what <= 22; what++) {
            view.append(what == 11 || what == 12 ? 0 : x.count(what)).append(' ');
        }
        for (int volume = 0; volume < 8; volume++) {
            for (int what = 0; what < 10; what++) {
                view.append(x.volumeOf(volume, what)).append(' ');
            }
            for (int place = 0; place < 40; place++) {
                view.append(x.read(volume, place, 0)).append(' ').append(x.read(volume, place, 1)).append(' ');
            }
        }
        for (int index = 0; index < 10; index++) {
            for (int what = 0; what < 3; what++) {
                view.append(x.warningOf(index, what)).append(' ');
            }
        }
        return view.toString();
    }

    static void end(String test) {
        System.out.println(test + ": " + (wrong == 0 ? "all answers are as due" : wrong + " wrong"));
        if (wrong != 0) {
            System.exit(1);
        }
    }
}
