/** Promises 22 to 25: type, clearText, fault and play. */
public final class TextsTest {
    public static void main(String[] args) {
        type();
        clearText();
        faultsOfForm();
        faultsOfPlace();
        otherFaults();
        faultChangesNothing();
        play();
        playCountsRefusals();
        playWarnsByOrder();
        playIsOneChange();
        Check.end("TextsTest");
    }

    private static void type() {
        ThinVolumes x = new ThinVolumes();
        Check.due("type(31)", x.type(31), Check.INVALID);
        Check.due("type(127)", x.type(127), Check.INVALID);
        Check.due("type(-1)", x.type(-1), Check.INVALID);
        Check.due("type(32)", x.type(32), 1);
        Check.due("type(126)", x.type(126), 2);
        for (int length = 3; length <= 60; length++) {
            Check.due("type('m')", x.type('m'), length);
        }
        Check.due("the 61st", x.type('m'), Check.LIMIT);
        Check.due("the 61st, out of range", x.type(31), Check.INVALID);
        Check.due("length", x.count(12), 60);
        Check.due("typing is no change", x.count(11), 0);
    }

    private static void clearText() {
        ThinVolumes x = new ThinVolumes();
        Check.due("clearText()", x.clearText(), 0);
        Check.typeAll(x, "hello");
        Check.due("clearText()", x.clearText(), 5);
        Check.due("length", x.count(12), 0);
        Check.due("clearText()", x.clearText(), 0);
        Check.due("fault(0)", x.fault(0), Check.NOT_FOUND);
        Check.due("clearing is no change", x.count(11), 0);
        Check.dueFault(x, "m", 0, 1);
        x.type(';');
        Check.due("it ends now", x.fault(0), Check.NOT_FOUND);
        Check.dueFault(x, "m", 0, 1);
        x.clearText();
        Check.due("the fault is gone with the text", x.fault(0), Check.NOT_FOUND);
        Check.due("play() of no orders", x.play(), 0);
    }

    private static void faultsOfForm() {
        ThinVolumes x = Check.withVolumes(40, 40, 40, 40);
        Check.due("fault(2)", x.fault(2), Check.INVALID);
        Check.due("fault(-1)", x.fault(-1), Check.INVALID);
        Check.due("an empty text", x.fault(0), Check.NOT_FOUND);
        Check.due("an empty text", x.fault(1), Check.NOT_FOUND);
        String[] right = {"m;", "m;m;", "w0,0,0;", "w00,00,00;", "w03,39,99;", "w3,09,9;", "s0;", "s03;",
            "c0;", "d0;", "d00;", "w0,1,5;t0,1;", "w0,1,5;t00,01;"};
        for (String text : right) {
            Check.dueFault(x, text, Check.NOT_FOUND, Check.NOT_FOUND);
        }
        String[] wrong = {"m", ";", " m;", "m ;", "M;", "m0;", "w;", "w0;", "w0,0;", "w0,0,0", "w0,0,;", "w,0,0;",
            "w0,,0;", "w0,0,100;", "w000,0,0;", "w0,0,0,0;", "w0,0,-1;", "w 0,0,0;", "w0.0,0;", "t0;", "t0,0",
            "t0,0,0;", "t,0;", "s;", "s0", "s0,0;", "c;", "c000;", "d;", "dd;", "x0;", "w0,0,1:", "w/,0,0;",
            "s0/;", "s:;", "w0,0,0;;"};
        for (String text : wrong) {
            ThinVolumes y = Check.withVolumes(40);
            Check.dueFault(y, text, text.equals("w0,0,0;;") ? 7 : 0, 1);
            Check.dueFault(y, "m;" + text, text.equals("w0,0,0;;") ? 9 : 2, 1);
        }
    }

    private static void faultsOfPlace() {
        ThinVolumes x = Check.withVolumes(5, 40);
        Check.dueFault(x, "w2,0,0;", 0, 2);
        Check.dueFault(x, "w8,0,0;", 0, 2);
        Check.dueFault(x, "w99,0,0;", 0, 2);
        Check.dueFault(x, "w0,5,0;", 0, 2);
        Check.dueFault(x, "w1,40,0;", 0, 2);
        Check.dueFault(x, "w1,39,0;", Check.NOT_FOUND, Check.NOT_FOUND);
        Check.dueFault(x, "m;t2,0;", 2, 2);
        Check.dueFault(x, "m;t0,5;", 2, 2);
        Check.dueFault(x, "s2;", 0, 2);
        Check.dueFault(x, "c2;", 0, 2);
        Check.dueFault(x, "d2;", 0, 2);
        Check.dueFault(x, "d1;s1;", 3, 2);
        Check.dueFault(x, "c0;s2;", Check.NOT_FOUND, Check.NOT_FOUND);
        Check.dueFault(x, "c0;w2,5,0;", 3, 2);
        Check.dueFault(x, "d9;zz", 0, 2);
        Check.dueFault(x, "d9", 0, 1);
    }

    private static void otherFaults() {
        ThinVolumes x = Check.withVolumes(5, 5, 5, 5, 5, 5, 5);
        Check.dueFault(x, "t0,0;", 0, 3);
        Check.dueFault(x, "w0,0,1;t0,0;t0,0;", 12, 3);
        Check.dueFault(x, "w0,0,0;s0;t0,0;", 10, 3);
        Check.dueFault(x, "c0;c0;", 3, 3);
        Check.dueFault(x, "c0;c9;", 3, 2);
        Check.dueFault(x, "c0;d1;c0;", Check.NOT_FOUND, Check.NOT_FOUND);
        x.set(1, 30);
        Check.dueFault(x, "w1,0,1;", Check.NOT_FOUND, Check.NOT_FOUND);
        Check.dueFault(x, "w1,0,1;t1,0;", 7, 3);
    }

    private static void faultChangesNothing() {
        ThinVolumes x = Check.withVolumes(5);
        x.write(0, 0, 3);
        Check.newText(x, "w0,0,4;c0;w1,0,9;m;d0;");
        Check.due("fault(0)", x.fault(0), Check.NOT_FOUND);
        Check.due("value", x.read(0, 0, 0), 3);
        Check.due("volumes", x.count(0), 1);
        Check.due("got", x.count(8), 1);
        Check.due("states", x.count(11), 2);
        Check.due("length", x.count(12), 22);
        x.type('x');
        Check.due("play() with a fault", x.play(), Check.NOT_POSSIBLE);
        Check.due("value", x.read(0, 0, 0), 3);
        Check.due("states", x.count(11), 2);
    }

    private static void play() {
        ThinVolumes x = Check.withVolumes(6);
        Check.newText(x, "w0,0,7;w00,01,07;w0,2,0;m;c0;t1,0;s1;w1,5,99;");
        Check.due("play()", x.play(), 0);
        Check.due("merged", x.read(0, 1, 1), 0);
        Check.due("cloned", x.volumeOf(1, 5), 0);
        Check.due("trimmed", x.read(1, 0, 1), Check.NOT_FOUND);
        Check.due("swept", x.read(1, 2, 1), Check.NOT_FOUND);
        Check.due("written", x.read(1, 5, 0), 99);
        Check.due("to the lowest free one", x.read(1, 5, 1), 1);
        Check.due("the text stays", x.count(12), 45);
        Check.newText(x, "d0;");
        Check.due("play()", x.play(), 0);
        Check.due("dropped", x.count(0), 1);
        Check.due("again, with a fault", x.play(), Check.NOT_POSSIBLE);
    }

    private static void playCountsRefusals() {
        ThinVolumes x = Check.withVolumes(6, 6);
        x.set(1, 30);
        Check.newText(x, "w1,0,1;w0,0,2;w1,0,3;w1,0,4;w0,0,5;");
        // 1 has 49 and 0 has 50, then 47: so 1 gets the second time, with 46 it keeps its piece.
        Check.due("play()", x.play(), 1);
        Check.due("refusals", x.count(7), 1);
        Check.due("value", x.read(1, 0, 0), 4);
        Check.due("value", x.read(0, 0, 0), 5);
        Check.due("manners of 1", x.volumeOf(1, 3), 46);
        Check.newText(x, "w1,1,1;w1,2,1;w1,3,1;");
        Check.due("play()", x.play(), 3);
        Check.due("all refusals", x.count(7), 4);
    }

    private static void playWarnsByOrder() {
        ThinVolumes x = Check.withVolumes(6, 6);
        x.set(0, 29);
        x.set(1, 28);
        x.promise(0, 1);
        Check.due("ahead of it", x.count(10), 1);
        Check.newText(x, "w1,0,1;t1,0;w0,0,1;w1,0,1;");
        x.set(2, 40);
        Check.due("play()", x.play(), 0);
        // Level 1 with 29; 28 behind the first write; 29 again; promised; 28 again.
        Check.due("behind it", x.count(10), 4);
        Check.due("kind 0", x.warningOf(0, 0), 0);
        Check.due("kind 2", x.warningOf(1, 0), 2);
        Check.due("kind 0", x.warningOf(2, 0), 0);
        Check.due("available", x.warningOf(2, 2), 28);
        Check.due("available", x.warningOf(1, 2), 29);
    }

    private static void playIsOneChange() {
        ThinVolumes x = new ThinVolumes();
        Check.due("an empty text", x.play(), 0);
        Check.due("is a change, too", x.count(11), 1);
        x.volume(4);
        Check.newText(x, "w0,0,1;w0,1,2;c0;");
        Check.due("play()", x.play(), 0);
        Check.due("one state", x.count(11), 3);
        Check.due("undo()", x.undo(), 2);
        Check.due("pieces", x.count(1), 30);
        Check.due("volumes", x.count(0), 1);
        Check.due("the text stays", x.count(12), 17);
        Check.due("play() again", x.play(), 0);
        Check.due("volumes", x.count(0), 2);
    }
}
