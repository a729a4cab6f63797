/** The edges that "Texts" and promises 22 to 25 name, a sentence at a time. */
public final class TextEdgesTest {
    private static final int NONE = Check.NOT_FOUND;
    private static final int FORM = 1;
    private static final int PLACE = 2;
    private static final int OTHERWISE = 3;

    public static void main(String[] args) {
        sixtyCharacters();
        charactersThatCanBeTyped();
        typeReturnsTheLength();
        clearText();
        ordersOfEachKind();
        numbersOfOneOrTwoDigits();
        signsBetweenNumbers();
        signsAroundDigits();
        semicolonBehindEachOrder();
        highestNumbers();
        positionFromZero();
        positionOfTheLastCharacters();
        firstFaultOfSeveral();
        noSuchVolume();
        noSuchPlace();
        trimmedWithoutPiece();
        clonedWithEight();
        reasonsThatBothApply();
        ordersAheadAreDone();
        refusedWritesAreDone();
        faultWithoutFault();
        faultOutOfRange();
        playReturnsRefusals();
        playKeepsTheText();
        playOfNoOrders();
        playOfTheMostOrders();
        playWithAFault();
        Check.end("TextEdgesTest");
    }

    private static void dueNoFault(ThinVolumes x, String text) {
        Check.dueFault(x, text, NONE, NONE);
    }

    private static void sixtyCharacters() {
        Check.sentence("There is a text of at most 60 characters, initially empty");
        ThinVolumes x = new ThinVolumes();
        Check.due("initially", x.count(12), 0);
        for (int length = 1; length <= 60; length++) {
            Check.due("type(' ')", x.type(' '), length);
            Check.due("length", x.count(12), length);
        }
        Check.due("the 61st", x.type(' '), Check.LIMIT);
        Check.due("the 61st, again", x.type('m'), Check.LIMIT);
        Check.due("length", x.count(12), 60);
        Check.due("the first one is still the fault", x.fault(0), 0);
        Check.due("clearText()", x.clearText(), 60);
        Check.due("the first one of a new text", x.type('m'), 1);
        Check.due("the second one", x.type(';'), 2);
        Check.due("nothing is left of the old one", x.fault(0), NONE);
    }

    private static void charactersThatCanBeTyped() {
        Check.sentence("`character`: 32 to 126");
        for (int character = 32; character <= 126; character++) {
            Check.due("type(" + character + ")", new ThinVolumes().type(character), 1);
        }
        int[] wrong = {31, 127, 0, 10, -1, 128, 255, 256 + 'm', 65536 + 'm', Integer.MIN_VALUE, Integer.MAX_VALUE};
        for (int character : wrong) {
            Check.dueUnchanged("type(" + character + ")", Check.INVALID, () -> withText("m;"), x -> x.type(character));
        }
    }

    private static ThinVolumes withText(String text) {
        ThinVolumes x = Check.withVolumes(3);
        Check.newText(x, text);
        return x;
    }

    private static void typeReturnsTheLength() {
        Check.sentence("Returns the length of the text; INVALID_ARGUMENT if character is out of range; "
            + "LIMIT_REACHED if it has 60 characters.");
        String text = "m;".repeat(29) + "s";
        ThinVolumes x = withText(text);
        Check.due("the 60th", x.type('0'), 60);
        Check.due("the 61st", x.type(';'), Check.LIMIT);
        Check.due("it was not appended", x.fault(0), 58);
        Check.due("out of range, too", x.type(127), Check.INVALID);
        Check.dueUnchanged("the 61st", Check.LIMIT, () -> withText("m;".repeat(30)), y -> y.type('m'));
    }

    private static void clearText() {
        Check.sentence("Returns the length it had.");
        ThinVolumes x = new ThinVolumes();
        Check.due("empty", x.clearText(), 0);
        x.type('x');
        Check.due("one character", x.clearText(), 1);
        Check.due("length", x.count(12), 0);
        Check.due("again", x.clearText(), 0);
        Check.typeAll(x, "m;".repeat(30));
        Check.due("sixty", x.clearText(), 60);
        Check.due("length", x.count(12), 0);
        Check.due("again", x.clearText(), 0);
    }

    private static void ordersOfEachKind() {
        Check.sentence("\"w\" a volume, \",\", a place, \",\", a value [..], \"t\" a volume, \",\", a place [..], "
            + "\"s\" a volume [..], \"c\" a volume [..], \"d\" a volume [..], or \"m\"");
        ThinVolumes x = Check.withVolumes(3, 3);
        x.write(0, 0, 1);
        String[] right = {"w0,0,0;", "t0,0;", "s0;", "c0;", "d0;", "m;"};
        for (String text : right) {
            dueNoFault(x, text);
        }
        String[] wrong = {"w0,0;", "w0;", "w;", "w0,0,0,0;", "t0;", "t;", "t0,0,0;", "s;", "s0,0;", "c;", "c0,0;", "d;",
            "d0,0;", "m0;", "0;", "W0,0,0;", "T0,0;", "S0;", "C0;", "D0;", "M;", "x0;", "v0,0,0;", "r0;"};
        for (String text : wrong) {
            Check.dueFault(x, text, 0, FORM);
        }
    }

    private static void numbersOfOneOrTwoDigits() {
        Check.sentence("numbers of 1 or 2 digits, 0 ahead allowed.");
        ThinVolumes x = Check.withVolumes(40, 40);
        x.write(1, 9, 1);
        String[] right = {"w1,9,5;", "w01,09,05;", "w1,10,15;", "w00,00,00;", "t1,9;", "t01,09;", "s01;", "c01;", "d01;"};
        for (String text : right) {
            dueNoFault(x, text);
        }
        String[] wrong = {"w,9,5;", "w1,,5;", "w1,9,;", "w001,9,5;", "w1,009,5;", "w1,9,005;", "w1,9,100;", "t,9;", "t1,;",
            "t001,9;", "t1,009;", "s;", "s001;", "c;", "c001;", "d;", "d001;"};
        for (String text : wrong) {
            Check.dueFault(x, text, 0, FORM);
        }
    }

    private static void signsBetweenNumbers() {
        ThinVolumes x = Check.withVolumes(3);
        x.write(0, 0, 1);
        String[] wrong = {"w0 0,0;", "w0,0 0;", "w0;0,0;", "w0,0;0;", "w0.0,0;", "w0,0-0;", "w 0,0,0;", "w0 ,0,0;",
            "w0, 0,0;", "w0,0,0 ;", "w0,0,0,;", "w0,-0,0;", "w0,+0,0;", "w-0,0,0;", "t0 0;", "t0;0;", "t0, 0;", "t,0,0;",
            "s 0;", "s0 ;", "s-0;", "s0,;", "m ;", " m;", "m,;"};
        for (String text : wrong) {
            Check.dueFault(x, text, 0, FORM);
        }
    }

    private static void signsAroundDigits() {
        ThinVolumes x = Check.withVolumes(3);
        x.write(0, 0, 1);
        String[] wrong = {"s/;", "s:;", "s0/;", "s0:;", "t/,0;", "t0,:;", "w0,0,/;", "w0,0,9:;", "w0,/0,0;"};
        for (String text : wrong) {
            Check.dueFault(x, text, 0, FORM);
        }
        dueNoFault(x, "w0,0,9;");
        dueNoFault(x, "w0,0,90;");
        dueNoFault(x, "w0,0,09;");
    }

    private static void semicolonBehindEachOrder() {
        Check.sentence("its reason is 1 if it is not of this form, its \";\" included");
        String[] orders = {"w0,0,0", "w00,00,00", "t0,0", "t00,00", "s0", "s00", "c0", "d0", "m"};
        for (String order : orders) {
            ThinVolumes x = Check.withVolumes(3);
            x.write(0, 0, 1);
            Check.dueFault(x, order, 0, FORM);
            dueNoFault(x, order + ";");
            Check.dueFault(x, order + ";;", order.length() + 1, FORM);
            Check.dueFault(x, order + ":", 0, FORM);
            Check.dueFault(x, order + "m;", 0, FORM);
            Check.dueFault(x, "m;" + order, 2, FORM);
            Check.dueFault(x, ";", 0, FORM);
        }
    }

    private static void highestNumbers() {
        ThinVolumes x = Check.withVolumes(40, 40, 40, 40, 40, 40, 40, 40);
        dueNoFault(x, "w7,39,99;t7,39;s7;d7;c0;w7,0,0;");
        Check.due("play()", x.play(), 0);
        Check.due("its parent", x.volumeOf(7, 5), 0);
        Check.due("the last order's value", x.read(7, 0, 1), 0);
        Check.newText(x, "w0,0,99;w7,39,98;");
        Check.due("play()", x.play(), 0);
        Check.due("value", x.read(0, 0, 0), 99);
        Check.due("value", x.read(7, 39, 0), 98);
        Check.newText(x, "w00,00,00;w07,09,09;");
        Check.due("play()", x.play(), 0);
        Check.due("value", x.read(0, 0, 0), 0);
        Check.due("value", x.read(7, 9, 0), 9);
    }

    private static void positionFromZero() {
        Check.sentence("The fault of the text is the position, from 0, of the first character of the first order "
            + "that is not possible;");
        ThinVolumes x = Check.withVolumes(3);
        Check.dueFault(x, "x", 0, FORM);
        Check.dueFault(x, "m;x", 2, FORM);
        Check.dueFault(x, "s0;x", 3, FORM);
        Check.dueFault(x, "s00;x", 4, FORM);
        Check.dueFault(x, "w00,00,00;x", 10, FORM);
        Check.dueFault(x, "w0,0,0;s8;", 7, PLACE);
        Check.dueFault(x, "m;t0,0;", 2, OTHERWISE);
        Check.dueFault(x, "w0,0,00;t0,0;t0,0;", 13, OTHERWISE);
    }

    private static void positionOfTheLastCharacters() {
        ThinVolumes x = Check.withVolumes(3);
        Check.dueFault(x, "m;".repeat(29) + "m", 58, FORM);
        Check.dueFault(x, "m;".repeat(29) + "mm", 58, FORM);
        Check.dueFault(x, "m;".repeat(28) + "s0;m", 59, FORM);
        Check.dueFault(x, "m;".repeat(28) + "s1;", 56, PLACE);
        Check.dueFault(x, "m;".repeat(27) + "t0,0;", 54, OTHERWISE);
        Check.dueFault(x, "w00,00,00;".repeat(5) + "w00,00,00:", 50, FORM);
        dueNoFault(x, "w00,00,00;".repeat(6));
    }

    private static void firstFaultOfSeveral() {
        ThinVolumes x = Check.withVolumes(3);
        Check.dueFault(x, "s1;x", 0, PLACE);
        Check.dueFault(x, "t0,0;s1;x", 0, OTHERWISE);
        Check.dueFault(x, "x;t0,0;", 0, FORM);
        Check.dueFault(x, "m;s1;t0,0;", 2, PLACE);
    }

    private static void noSuchVolume() {
        Check.sentence("2 if there is no such volume, or no such place in it");
        String[] numbers = {"1", "01", "3", "7", "8", "9", "10", "99"};
        for (String number : numbers) {
            ThinVolumes x = Check.withVolumes(40, 40, 40);
            x.drop(1);
            Check.dueFault(x, "w" + number + ",0,0;", 0, PLACE);
            Check.dueFault(x, "t" + number + ",0;", 0, PLACE);
            Check.dueFault(x, "s" + number + ";", 0, PLACE);
            Check.dueFault(x, "c" + number + ";", 0, PLACE);
            Check.dueFault(x, "d" + number + ";", 0, PLACE);
        }
        ThinVolumes z = new ThinVolumes();
        Check.dueFault(z, "s0;", 0, PLACE);
        dueNoFault(z, "m;");
    }

    private static void noSuchPlace() {
        ThinVolumes x = Check.withVolumes(1, 40);
        dueNoFault(x, "w0,0,1;t0,0;");
        Check.dueFault(x, "w0,1,1;", 0, PLACE);
        Check.dueFault(x, "t0,1;", 0, PLACE);
        Check.dueFault(x, "w0,40,1;", 0, PLACE);
        Check.dueFault(x, "t0,99;", 0, PLACE);
        dueNoFault(x, "w1,39,1;t1,39;");
        Check.dueFault(x, "w1,40,1;", 0, PLACE);
        Check.dueFault(x, "t1,40;", 0, PLACE);
        Check.dueFault(x, "w1,99,1;", 0, PLACE);
        dueNoFault(x, "c0;w2,0,1;t2,0;");
        Check.dueFault(x, "c0;w2,1,1;", 3, PLACE);
    }

    private static void trimmedWithoutPiece() {
        Check.sentence("3 if it is not possible otherwise (a place that has no piece is to be trimmed;");
        ThinVolumes x = Check.withVolumes(3);
        Check.dueFault(x, "t0,0;", 0, OTHERWISE);
        Check.dueFault(x, "t0,2;", 0, OTHERWISE);
        Check.dueFault(x, "w0,1,1;t0,2;", 7, OTHERWISE);
        dueNoFault(x, "w0,2,1;t0,2;");
        x.write(0, 2, 0);
        dueNoFault(x, "t0,2;");
        Check.dueFault(x, "t0,2;t0,2;", 5, OTHERWISE);
    }

    private static void clonedWithEight() {
        Check.sentence("a volume is to be cloned, and there are 8)");
        ThinVolumes x = Check.withVolumes(3, 3, 3, 3, 3, 3, 3);
        dueNoFault(x, "c0;");
        Check.dueFault(x, "c6;c0;", 3, OTHERWISE);
        Check.dueFault(x, "c6;c7;", 3, OTHERWISE);
        x.volume(1);
        Check.dueFault(x, "c0;", 0, OTHERWISE);
        Check.dueFault(x, "c7;", 0, OTHERWISE);
        dueNoFault(x, "d7;c0;");
        Check.dueFault(x, "d3;c0;c0;", 6, OTHERWISE);
    }

    private static void reasonsThatBothApply() {
        Check.sentence("its reason is 1 if [..], 2 if [..], and 3 if it is not possible otherwise");
        ThinVolumes x = Check.withVolumes(3, 3, 3, 3, 3, 3, 3, 3);
        Check.dueFault(x, "c8;", 0, PLACE);
        Check.dueFault(x, "t8,0;", 0, PLACE);
        Check.dueFault(x, "t0,3;", 0, PLACE);
        Check.dueFault(x, "t0,0", 0, FORM);
        Check.dueFault(x, "c0", 0, FORM);
        Check.dueFault(x, "c8", 0, FORM);
        Check.dueFault(x, "s8:", 0, FORM);
        Check.dueFault(x, "w8,0,100;", 0, FORM);
    }

    private static void ordersAheadAreDone() {
        Check.sentence("when those ahead of it are done.");
        ThinVolumes x = Check.withVolumes(3, 2);
        Check.dueFault(x, "d0;s0;", 3, PLACE);
        Check.dueFault(x, "d0;w0,0,1;", 3, PLACE);
        dueNoFault(x, "c0;s2;");
        dueNoFault(x, "d0;c1;w0,1,1;");
        Check.dueFault(x, "d0;c1;w0,2,1;", 6, PLACE);
        Check.dueFault(x, "w0,0,0;s0;t0,0;", 10, OTHERWISE);
        dueNoFault(x, "w0,0,1;s0;t0,0;");
        dueNoFault(x, "w0,0,1;c0;t0,0;t2,0;");
        Check.dueFault(x, "c0;w0,0,1;t2,0;", 10, OTHERWISE);
        dueNoFault(x, "w0,0,1;w0,1,1;m;t0,0;t0,1;");
    }

    private static void refusedWritesAreDone() {
        Check.sentence("(it is written; if it is refused, this is done, too)");
        ThinVolumes x = Check.withVolumes(3, 3);
        x.set(1, 30);
        dueNoFault(x, "w1,0,1;");
        Check.dueFault(x, "w1,0,1;t1,0;", 7, OTHERWISE);
        Check.newText(x, "w1,0,1;w1,0,2;");
        Check.due("play()", x.play(), 2);
        Check.due("manners", x.volumeOf(1, 3), 48);
        Check.due("its refusals", x.volumeOf(1, 8), 2);
        Check.due("all refusals", x.count(7), 2);
        Check.due("warnings", x.count(10), 3);
        Check.due("one change", x.undo(), 3);
        Check.due("manners", x.volumeOf(1, 3), 50);
        Check.due("refusals", x.count(7), 0);
    }

    private static void faultWithoutFault() {
        Check.sentence("NOT_FOUND if the text has no fault (also if it is empty).");
        ThinVolumes x = Check.withVolumes(3);
        Check.due("an empty text", x.fault(0), NONE);
        Check.due("an empty text", x.fault(1), NONE);
        dueNoFault(x, "m;");
        dueNoFault(x, "m;".repeat(30));
        Check.dueFault(x, "m;m", 2, FORM);
        x.clearText();
        Check.due("an emptied text", x.fault(0), NONE);
        Check.due("an emptied text", x.fault(1), NONE);
        Check.newText(x, "t0,0;");
        Check.due("a fault", x.fault(1), OTHERWISE);
        x.write(0, 0, 1);
        Check.due("not any more", x.fault(1), NONE);
        x.undo();
        Check.due("again", x.fault(1), OTHERWISE);
    }

    private static void faultOutOfRange() {
        Check.sentence("`what`: 0: its position; 1: its reason");
        int[] wrong = {-1, 2, Integer.MIN_VALUE, Integer.MAX_VALUE};
        for (int what : wrong) {
            String call = "fault(" + what + ")";
            Check.due(call + ", an empty text", new ThinVolumes().fault(what), Check.INVALID);
            Check.dueUnchanged(call + ", no fault", Check.INVALID, () -> withText("m;"), x -> x.fault(what));
            Check.dueUnchanged(call + ", a fault", Check.INVALID, () -> withText("x"), x -> x.fault(what));
        }
        Check.dueUnchanged("fault(0), no fault", NONE, () -> withText("w0,0,1;c0;d0;"), x -> x.fault(0));
        Check.dueUnchanged("fault(1), no fault", NONE, () -> withText("w0,0,1;c0;d0;"), x -> x.fault(1));
        Check.dueUnchanged("fault(0), the first order", 0, () -> withText("x"), x -> x.fault(0));
        Check.dueUnchanged("fault(1) behind orders", 3, () -> withText("w0,0,1;c0;t0,2;"), x -> x.fault(1));
    }

    private static void playReturnsRefusals() {
        Check.sentence("Returns how many of them were refused;");
        ThinVolumes x = Check.withVolumes(9, 9);
        Check.newText(x, "w1,0,1;w1,1,1;");
        Check.due("none", x.play(), 0);
        x.set(1, 30);
        Check.newText(x, "w1,2,1;");
        Check.due("one", x.play(), 1);
        Check.newText(x, "w1,2,1;w1,0,3;w0,0,1;w1,3,1;m;");
        Check.due("one of four writes: 48 are more than 47", x.play(), 1);
        Check.newText(x, "w1,4,1;".repeat(8));
        Check.due("eight", x.play(), 8);
        Check.due("all refusals", x.count(7), 10);
    }

    private static void playKeepsTheText() {
        Check.sentence("Does all orders of the text, which stays.");
        ThinVolumes x = Check.withVolumes(40);
        Check.newText(x, "c0;");
        for (int clone = 1; clone < 8; clone++) {
            Check.due("play()", x.play(), 0);
            Check.due("length", x.count(12), 3);
            Check.due("parent", x.volumeOf(clone, 5), 0);
        }
        Check.due("play() with a fault then", x.play(), Check.NOT_POSSIBLE);
        Check.due("length", x.count(12), 3);
    }

    private static void playOfNoOrders() {
        Check.sentence("They are one change, also if there are none.");
        ThinVolumes x = new ThinVolumes();
        for (int states = 1; states <= 6; states++) {
            Check.due("play()", x.play(), 0);
            Check.due("states", x.count(11), Math.min(states, 4));
        }
        Check.due("undo()", x.undo(), 3);
    }

    private static void playOfTheMostOrders() {
        ThinVolumes x = Check.withVolumes(3);
        Check.newText(x, "m;".repeat(30));
        Check.due("thirty orders", x.play(), 0);
        Check.due("are one change", x.count(11), 2);
        Check.newText(x, "w00,00,01;w00,01,01;w00,02,01;w00,00,02;w00,01,03;w00,02,99;");
        Check.due("six orders", x.play(), 0);
        Check.due("are one change", x.count(11), 3);
        Check.due("the last one is done", x.read(0, 2, 0), 99);
        Check.due("undo()", x.undo(), 2);
        Check.due("all are taken back", x.count(1), 30);
    }

    private static void playWithAFault() {
        Check.sentence("NOT_POSSIBLE if it has a fault.");
        String[] wrong = {"x", "m", "w0,0,5;t0,1;", "c0;d0;s0;", "w0,0,5;s7;"};
        for (String text : wrong) {
            Check.dueUnchanged("play() of " + text, Check.NOT_POSSIBLE, () -> withText(text), ThinVolumes::play);
        }
        ThinVolumes x = withText("w0,0,5;w0,1,5;m;c0;x");
        Check.due("play()", x.play(), Check.NOT_POSSIBLE);
        Check.due("no order ahead of it is done", x.count(8), 0);
        Check.due("states", x.count(11), 1);
        Check.due("length", x.count(12), 20);
    }
}
