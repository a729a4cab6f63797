/** Promises 15 to 21: couldGet, couldFree, family, ranked, over, count and undo. */
public final class WhatWouldBeTest {
    public static void main(String[] args) {
        couldGet();
        couldGetAtLevelTwo();
        couldFree();
        family();
        ranked();
        over();
        count();
        undo();
        undoRestoresEverythingButTheText();
        undoOfEachChange();
        errorsChangeNothing();
        Check.end("WhatWouldBeTest");
    }

    private static void couldGet() {
        ThinVolumes x = Check.withVolumes(1, 40);
        Check.due("couldGet(2)", x.couldGet(2), Check.INVALID);
        Check.due("couldGet(-1)", x.couldGet(-1), Check.INVALID);
        Check.due("couldGet(8)", x.couldGet(8), Check.INVALID);
        // 20 at level 0, then with 50, 47, 44, 41 at level 1; 38 are less than 40.
        Check.due("couldGet(0)", x.couldGet(0), 24);
        x.promise(1, 5);
        Check.due("its promise is used first", x.couldGet(1), 24);
        Check.due("another one's is not", x.couldGet(0), 19);
        x.set(2, 0);
        // 15 at level 0, 6 at level 1; then 0 has 32 and 1 has 50.
        Check.due("level 2 is for the best", x.couldGet(0), 21);
        x.set(0, 0);
        x.set(1, 0);
        Check.due("all that is available", x.couldGet(0), 25);
        Check.due("and its promise", x.couldGet(1), 30);
        Check.due("manners stay", x.volumeOf(0, 3), 50);
        Check.due("nothing is got", x.count(1), 30);
    }

    private static void couldGetAtLevelTwo() {
        ThinVolumes x = Check.withVolumes(40);
        x.set(1, 30);
        Check.due("alone", x.couldGet(0), 30);
        x.volume(5);
        Check.due("one, then 47 against 50", x.couldGet(0), 1);
        Check.due("behind 0 by its number", x.couldGet(1), 0);
        x.promise(1, 2);
        Check.due("only its promise", x.couldGet(1), 2);
        x.write(0, 0, 0);
        x.trim(0, 0);
        // 0 has 49 now, 1 has 50.
        Check.due("0 is not the best", x.couldGet(0), 0);
        Check.due("1 is, once", x.couldGet(1), 3);
        x.write(1, 0, 0);
        x.sweep(1);
        x.write(1, 0, 0);
        x.sweep(1);
        Check.due("54 for volume 1", x.volumeOf(1, 3), 54);
        Check.due("54, 51, then 48 against 49", x.couldGet(1), 2);
    }

    private static void couldFree() {
        ThinVolumes x = Check.withVolumes(9, 9);
        Check.due("couldFree(2)", x.couldFree(2), Check.INVALID);
        Check.due("couldFree(8)", x.couldFree(8), Check.INVALID);
        Check.due("couldFree(-3)", x.couldFree(-3), Check.INVALID);
        x.write(0, 0, 0);
        x.write(0, 1, 0);
        x.write(0, 2, 5);
        x.write(0, 3, 5);
        x.write(1, 0, 0);
        x.write(1, 1, 5);
        x.write(1, 2, 6);
        Check.due("sweeping 0", x.couldFree(0), 2);
        Check.due("sweeping 1", x.couldFree(1), 1);
        Check.due("merging", x.couldFree(-1), 4);
        Check.due("all", x.couldFree(-2), 5);
        x.share(0);
        Check.due("shared with a clone", x.couldFree(0), 0);
        Check.due("all, with the clone", x.couldFree(-2), 5);
        Check.due("nothing is freed", x.count(1), 23);
        Check.due("nor counted", x.count(9), 0);
        Check.due("manners stay", x.volumeOf(1, 3), 50);
        Check.due("no state", x.count(11), 4);
        Check.due("merge does so", x.merge(), 4);
        Check.due("nothing to merge", x.couldFree(-1), 0);
        Check.due("one piece of value 0", x.couldFree(-2), 1);
    }

    private static void family() {
        ThinVolumes x = Check.withVolumes(9, 9);
        Check.due("family(2, 0)", x.family(2, 0), Check.INVALID);
        Check.due("family(-1, 0)", x.family(-1, 0), Check.INVALID);
        Check.due("family(0, -1)", x.family(0, -1), Check.INVALID);
        Check.due("family(0, 3)", x.family(0, 3), Check.INVALID);
        Check.fill(x, 0, 3, 7);
        Check.due("alone", x.family(0, 0), 1);
        Check.due("its pieces", x.family(0, 1), 3);
        Check.due("no clones", x.family(0, 2), 0);
        x.share(0);
        x.share(2);
        x.share(0);
        x.share(3);
        x.write(3, 0, 8);
        x.write(5, 0, 9);
        x.write(5, 8, 9);
        Check.due("family(0, 0)", x.family(0, 0), 61);
        Check.due("family(0, 1)", x.family(0, 1), 6);
        Check.due("family(0, 2)", x.family(0, 2), 3);
        Check.due("family(2, 0)", x.family(2, 0), 44);
        Check.due("family(2, 1)", x.family(2, 1), 3);
        Check.due("family(2, 2)", x.family(2, 2), 2);
        Check.due("family(4, 0)", x.family(4, 0), 16);
        Check.due("family(4, 1)", x.family(4, 1), 0);
        Check.due("family(5, 1)", x.family(5, 1), 2);
        x.drop(2);
        Check.due("family(0, 0)", x.family(0, 0), 57);
        Check.due("family(0, 2)", x.family(0, 2), 2);
        Check.due("family(1, 0)", x.family(1, 0), 2);
        ThinVolumes line = Check.withVolumes(1);
        for (int volume = 0; volume < 7; volume++) {
            line.share(volume);
        }
        Check.due("the longest line", line.family(0, 2), 7);
        Check.due("all", line.family(0, 0), 255);
        line.drop(0);
        Check.due("a clone at the end with the lowest number", line.share(7), 0);
        Check.due("is in the line, too", line.family(1, 2), 7);
        Check.due("and in the family", line.family(7, 0), 129);
    }

    private static void ranked() {
        ThinVolumes x = new ThinVolumes();
        Check.due("ranked(0)", x.ranked(0), Check.NOT_FOUND);
        Check.due("ranked(-1)", x.ranked(-1), Check.INVALID);
        x.volume(3);
        x.volume(3);
        x.volume(3);
        Check.due("ranked(0)", x.ranked(0), 0);
        Check.due("ranked(2)", x.ranked(2), 2);
        Check.due("ranked(3)", x.ranked(3), Check.NOT_FOUND);
        Check.due("ranked(MAX)", x.ranked(Integer.MAX_VALUE), Check.NOT_FOUND);
        x.write(1, 0, 1);
        x.trim(1, 0);
        Check.due("ranked(0)", x.ranked(0), 1);
        Check.due("ranked(1)", x.ranked(1), 0);
        x.drop(1);
        Check.due("ranked(1)", x.ranked(1), 2);
        Check.due("ranked(2)", x.ranked(2), Check.NOT_FOUND);
    }

    private static void dueOver(ThinVolumes x, int above, int below) {
        Check.due("over(0)", x.over(0), above);
        Check.due("over(1)", x.over(1), below);
    }

    private static void over() {
        ThinVolumes x = new ThinVolumes();
        Check.due("over(-1)", x.over(-1), Check.INVALID);
        Check.due("over(2)", x.over(2), Check.INVALID);
        dueOver(x, 0, 1);
        x.volume(7);
        dueOver(x, 7, 30);
        x.volume(8);
        dueOver(x, 1, 2);
        x.volume(5);
        dueOver(x, 2, 3);
        x.volume(40);
        dueOver(x, 2, 1);
        x.share(3);
        x.share(3);
        dueOver(x, 14, 3);
        x.drop(1);
        dueOver(x, 22, 5);
    }

    private static void count() {
        ThinVolumes x = Check.withVolumes(40, 40);
        int[] wrong = {-1, 13, 14, 19, 23, Integer.MAX_VALUE, Integer.MIN_VALUE};
        for (int what : wrong) {
            Check.due("count(" + what + ")", x.count(what), Check.INVALID);
        }
        Check.fill(x, 0, 8, 1);
        x.promise(1, 12);
        x.share(0);
        x.write(2, 0, 2);
        x.set(1, 30);
        x.write(2, 1, 2);
        x.trim(0, 0);
        x.type('m');
        // Volume 0 has 7 places on 1 to 7, volume 2 has 8: seven shared, one on piece 8.
        int[] due = {3, 22, 10, 2, 12, 15, 7, 1, 9, 1, 3, 4, 1};
        for (int what = 0; what < due.length; what++) {
            Check.due("count(" + what + ")", x.count(what), due[what]);
        }
        Check.due("count(20)", x.count(20), 10);
        Check.due("count(21)", x.count(21), 30);
        Check.due("count(22)", x.count(22), 40);
        x.trim(0, 7);
        x.trim(2, 7);
        Check.due("a piece more is free", x.count(1), 23);
        x.write(2, 7, 1);
        x.drop(2);
        Check.due("refusals stay", x.count(7), 2);
        Check.due("got stays", x.count(8), 9);
        Check.due("freed", x.count(9), 3);
        Check.due("shared", x.count(6), 0);
        ThinVolumes y = Check.withVolumes(2);
        y.write(0, 0, 1);
        y.share(0);
        Check.due("piece 0 is shared", y.count(6), 1);
        Check.due("its owners", y.count(5), 2);
    }

    private static void undo() {
        ThinVolumes x = new ThinVolumes();
        Check.due("undo()", x.undo(), Check.NOT_POSSIBLE);
        x.volume(9);
        x.volume(9);
        x.volume(9);
        Check.due("three states", x.count(11), 3);
        x.volume(9);
        x.volume(9);
        x.write(0, 0, 1);
        Check.due("at most four", x.count(11), 4);
        Check.due("an error is no change", x.volume(0), Check.INVALID);
        Check.due("an error is no change", x.trim(0, 5), Check.NOT_POSSIBLE);
        x.couldFree(-2);
        x.fault(0);
        Check.due("undo()", x.undo(), 3);
        Check.due("no piece", x.count(1), 30);
        Check.due("volumes", x.count(0), 5);
        Check.due("undo()", x.undo(), 2);
        Check.due("undo()", x.undo(), 1);
        Check.due("volumes", x.count(0), 3);
        x.drop(0);
        Check.due("a change behind it", x.count(11), 2);
        Check.due("undo()", x.undo(), 1);
        Check.due("undo()", x.undo(), 0);
        Check.due("undo()", x.undo(), Check.NOT_POSSIBLE);
        Check.due("volumes", x.count(0), 2);
    }

    private static ThinVolumes busy() {
        ThinVolumes x = Check.withVolumes(9, 9, 9);
        x.promise(1, 2);
        x.write(1, 0, 0);
        x.write(1, 1, 4);
        x.write(0, 0, 4);
        x.share(1);
        x.set(1, 29);
        x.write(2, 0, 4);
        x.trim(0, 0);
        x.write(0, 1, 4);
        return x;
    }

    private static int change(ThinVolumes x, int which) {
        switch (which) {
            case 0: return x.volume(3);
            case 1: return x.share(1);
            case 2: return x.drop(1);
            case 3: return x.promise(0, 5);
            case 4: return x.set(0, 3);
            case 5: return x.write(1, 0, 7);
            case 6: return x.trim(1, 0);
            case 7: return x.sweep(3);
            case 8: return x.merge();
            case 9: return x.write(0, 8, 7);
            default: return x.play();
        }
    }

    private static void undoOfEachChange() {
        for (int which = 0; which <= 10; which++) {
            ThinVolumes x = busy();
            Check.typeAll(x, "w1,3,3;m;");
            String before = Check.view(x);
            Check.due("change " + which, change(x, which) >= 0 || which == 9);
            Check.due("it is one", x.undo(), 3);
            Check.due("undo of change " + which, Check.view(x).equals(before));
        }
    }

    private static void errorsChangeNothing() {
        ThinVolumes x = busy();
        Check.typeAll(x, "t0,8;");
        for (int volume = 4; volume < 8; volume++) {
            x.volume(1);
        }
        String before = Check.view(x);
        int[] errors = {x.volume(41), x.volume(4), x.share(1), x.share(8), x.drop(8), x.promise(0, 30), x.promise(0, 31),
            x.set(0, 31), x.set(3, 0), x.write(0, 9, 0), x.write(0, 0, 100), x.trim(0, 8), x.trim(0, 9), x.sweep(-1),
            x.read(0, 8, 1), x.couldGet(9), x.couldFree(-3), x.play(), x.fault(2), x.type(5), x.count(13)};
        int[] due = {Check.INVALID, Check.LIMIT, Check.LIMIT, Check.INVALID, Check.INVALID, Check.NOT_POSSIBLE,
            Check.INVALID, Check.INVALID, Check.INVALID, Check.INVALID, Check.INVALID, Check.NOT_POSSIBLE, Check.INVALID,
            Check.INVALID, Check.NOT_FOUND, Check.INVALID, Check.INVALID, Check.NOT_POSSIBLE, Check.INVALID,
            Check.INVALID, Check.INVALID};
        for (int call = 0; call < due.length; call++) {
            Check.due("error " + call, errors[call], due[call]);
        }
        Check.due("errors change nothing", Check.view(x).equals(before));
        Check.due("nor the history", x.undo(), 3);
        Check.due("nor its latest state", x.count(0), 7);
    }

    private static void undoRestoresEverythingButTheText() {
        ThinVolumes x = Check.withVolumes(9, 9);
        x.set(1, 30);
        x.set(0, 7);
        x.set(2, 9);
        Check.due("a refused write is a change", x.write(1, 0, 1), Check.REFUSED);
        Check.due("states", x.count(11), 4);
        x.type('m');
        Check.due("undo()", x.undo(), 3);
        Check.due("refusals", x.count(7), 0);
        Check.due("its refusals", x.volumeOf(1, 8), 0);
        Check.due("manners", x.volumeOf(1, 3), 50);
        Check.due("warnings", x.count(10), 1);
        Check.due("the text stays", x.count(12), 1);
        Check.due("undo()", x.undo(), 2);
        Check.due("undo()", x.undo(), 1);
        Check.due("setting 2", x.count(22), 40);
        Check.due("setting 0", x.count(20), 10);
        Check.due("setting 1", x.count(21), 30);
        Check.due("undo()", x.undo(), 0);
        Check.due("setting 1", x.count(21), 4);
        Check.due("volumes", x.count(0), 2);
        x.promise(0, 3);
        x.write(0, 0, 1);
        x.share(0);
        x.drop(0);
        x.undo();
        Check.due("parent", x.volumeOf(2, 5), 0);
        Check.due("promise", x.volumeOf(0, 4), 2);
        Check.due("got", x.volumeOf(0, 9), 1);
        Check.due("owners", x.pieceOf(0, 1), 2);
        x.undo();
        x.undo();
        Check.due("got", x.count(8), 0);
        Check.due("promise", x.volumeOf(0, 4), 3);
        Check.due("piece", x.read(0, 0, 1), Check.NOT_FOUND);
    }
}
