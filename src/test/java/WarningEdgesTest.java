/** The edges that "Warnings" and promise 14 name, a sentence at a time. */
public final class WarningEdgesTest {
    public static void main(String[] args) {
        levelBecomesGreater();
        levelStaysOrFalls();
        levelBySettings();
        levelByWriting();
        noneByUndo();
        eachOrderByItself();
        ordersThatLeaveTheLevel();
        refusals();
        refusalsByOrders();
        promiseUsedUp();
        promiseNotUsedUp();
        latestTen();
        latestTenByOrders();
        undoBringsTheOldestBack();
        noneByErrors();
        indexes();
        kindsAndVolumes();
        Check.end("WarningEdgesTest");
    }

    private static void dueWarning(ThinVolumes x, int index, int kind, int volume, int available) {
        Check.due("kind of " + index, x.warningOf(index, 0), kind);
        Check.due("volume of " + index, x.warningOf(index, 1), volume);
        Check.due("available behind " + index, x.warningOf(index, 2), available);
    }

    private static void dueNew(ThinVolumes x, int count, int kind, int volume, int available) {
        Check.due("warnings", x.count(10), count);
        dueWarning(x, 0, kind, volume, available);
    }

    private static void levelBecomesGreater() {
        Check.sentence("A warning is made when by a call [..] the level becomes greater (kind 0)");
        ThinVolumes x = Check.withVolumes(1);
        x.promise(0, 20);
        dueNew(x, 1, 0, -1, 10);
        x.promise(0, 26);
        dueNew(x, 2, 0, -1, 4);
        x.promise(0, 0);
        x.promise(0, 30);
        dueNew(x, 3, 0, -1, 0);
    }

    private static void levelStaysOrFalls() {
        ThinVolumes x = Check.withVolumes(1);
        x.promise(0, 19);
        Check.due("level 0 with 11", x.count(10), 0);
        x.promise(0, 20);
        x.promise(0, 25);
        Check.due("level 1 with 10 and with 5", x.count(10), 1);
        x.promise(0, 26);
        x.promise(0, 30);
        Check.due("level 2 with 4 and with 0", x.count(10), 2);
        x.promise(0, 25);
        Check.due("from 2 to 1", x.count(10), 2);
        x.promise(0, 0);
        Check.due("from 1 to 0", x.count(10), 2);
        x.promise(0, 30);
        x.promise(0, 0);
        Check.due("from 2 to 0", x.count(10), 3);
        x.promise(0, 30);
        x.drop(0);
        Check.due("from 2 to 0 by dropping", x.count(10), 4);
        Check.due("level", x.count(3), 0);
    }

    private static void levelBySettings() {
        ThinVolumes x = new ThinVolumes();
        x.set(0, 29);
        x.set(1, 29);
        Check.due("29 are less than 30", x.count(10), 0);
        x.set(0, 30);
        dueNew(x, 1, 0, -1, 30);
        x.set(1, 30);
        dueNew(x, 2, 0, -1, 30);
        x.set(0, 0);
        x.set(0, 30);
        x.set(2, 100);
        Check.due("level 2 stays", x.count(10), 2);
        x.set(1, 0);
        Check.due("from 2 to 1", x.count(10), 2);
        x.set(0, 0);
        Check.due("from 1 to 0", x.count(10), 2);
        x.set(1, 30);
        dueNew(x, 3, 0, -1, 30);
    }

    private static void levelByWriting() {
        ThinVolumes x = Check.withVolumes(9, 9);
        x.set(0, 28);
        x.set(1, 26);
        x.write(0, 0, 1);
        Check.due("29: level 0", x.count(10), 0);
        x.write(0, 1, 1);
        dueNew(x, 1, 0, -1, 28);
        x.write(0, 2, 1);
        Check.due("27: level 1", x.count(10), 1);
        x.write(0, 2, 3);
        x.share(0);
        x.volume(1);
        Check.due("these leave it as it is", x.count(10), 1);
        x.write(1, 0, 1);
        dueNew(x, 2, 0, -1, 26);
        x.trim(1, 0);
        x.promise(1, 1);
        dueNew(x, 3, 0, -1, 26);
        x.write(1, 0, 1);
        dueNew(x, 4, 2, 1, 26);
    }

    private static void noneByUndo() {
        Check.sentence("(but undo(); by each order of a text by itself)");
        ThinVolumes x = Check.withVolumes(1);
        x.promise(0, 30);
        x.promise(0, 0);
        Check.due("warnings", x.count(10), 1);
        x.undo();
        Check.due("the level is 2 again", x.count(3), 2);
        Check.due("warnings", x.count(10), 1);
        x.undo();
        Check.due("the level is 0 again", x.count(3), 0);
        Check.due("warnings", x.count(10), 0);
        x.set(1, 30);
        x.set(1, 0);
        x.undo();
        Check.due("the level is 2 again", x.count(3), 2);
        Check.due("warnings", x.count(10), 1);
    }

    private static void eachOrderByItself() {
        ThinVolumes x = Check.withVolumes(9);
        x.set(0, 29);
        x.set(1, 28);
        Check.newText(x, "w0,0,1;w0,1,1;t0,1;t0,0;w0,5,1;");
        Check.due("play()", x.play(), 0);
        Check.due("warnings", x.count(10), 3);
        dueWarning(x, 2, 0, -1, 29);
        dueWarning(x, 1, 0, -1, 28);
        dueWarning(x, 0, 0, -1, 29);
    }

    private static void ordersThatLeaveTheLevel() {
        ThinVolumes x = Check.withVolumes(9);
        x.set(0, 29);
        x.set(1, 0);
        Check.newText(x, "w0,0,1;t0,0;");
        Check.due("play()", x.play(), 0);
        Check.due("the level is what it was", x.count(3), 0);
        Check.due("but one order made it greater", x.count(10), 1);
        dueWarning(x, 0, 0, -1, 29);
        Check.newText(x, "m;c0;s1;d1;");
        Check.due("play()", x.play(), 0);
        Check.due("these do not", x.count(10), 1);
        Check.newText(x, "w0,0,1;t0,1;");
        Check.due("with a fault behind it", x.play(), Check.NOT_POSSIBLE);
        Check.due("fault(0)", x.fault(0), 7);
        Check.due("warnings", x.count(10), 1);
    }

    private static void refusals() {
        Check.sentence("when a volume is refused (kind 1)");
        ThinVolumes x = Check.withVolumes(2, 2);
        x.set(1, 30);
        Check.due("write(1, 0, 1)", x.write(1, 0, 1), Check.REFUSED);
        dueNew(x, 2, 1, 1, 30);
        x.promise(0, 30);
        Check.due("write(1, 1, 1)", x.write(1, 1, 1), Check.REFUSED);
        dueNew(x, 3, 1, 1, 0);
        x.drop(1);
        dueNew(x, 3, 1, 1, 0);
    }

    private static void refusalsByOrders() {
        ThinVolumes x = Check.withVolumes(2, 2);
        x.set(1, 30);
        Check.newText(x, "w1,0,1;w0,0,1;w0,1,1;");
        Check.due("play()", x.play(), 2);
        Check.due("warnings", x.count(10), 3);
        dueWarning(x, 1, 1, 1, 30);
        dueWarning(x, 0, 1, 0, 29);
    }

    private static void promiseUsedUp() {
        Check.sentence("or when a promise becomes 0 by a write (kind 2).");
        ThinVolumes x = Check.withVolumes(9, 9);
        x.promise(1, 2);
        x.write(1, 0, 1);
        Check.due("1 is left", x.count(10), 0);
        x.write(1, 1, 1);
        dueNew(x, 1, 2, 1, 28);
        x.promise(0, 1);
        Check.newText(x, "w0,0,1;");
        x.play();
        dueNew(x, 2, 2, 0, 27);
    }

    private static void promiseNotUsedUp() {
        ThinVolumes x = Check.withVolumes(9, 9);
        x.promise(1, 1);
        x.promise(1, 0);
        Check.due("0 by promise()", x.count(10), 0);
        x.promise(1, 1);
        x.drop(1);
        Check.due("given up", x.count(10), 0);
        x.write(0, 0, 1);
        Check.due("0 ahead of the write", x.count(10), 0);
        x.promise(0, 1);
        x.write(0, 0, 2);
        Check.due("not needed", x.count(10), 0);
        x.undo();
        x.undo();
        Check.due("0 by undo()", x.volumeOf(0, 4), 0);
        Check.due("none", x.count(10), 0);
    }

    private static void latestTen() {
        Check.sentence("The latest 10 are kept.");
        ThinVolumes x = Check.withVolumes(9, 9);
        x.set(0, 30);
        x.set(1, 0);
        x.set(2, 100);
        for (int count = 1; count <= 12; count++) {
            Check.due("warnings", x.count(10), Math.min(count, 10));
            Check.due("the oldest one", x.warningOf(Math.min(count, 10) - 1, 0), count <= 10 ? 0 : 1);
            Check.due("one behind it", x.warningOf(Math.min(count, 10), 0), Check.NOT_FOUND);
            x.promise(0, 29 - count);
            Check.due("write(1, 0, 1)", x.write(1, 0, 1), Check.REFUSED);
        }
        for (int index = 0; index < 10; index++) {
            dueWarning(x, index, 1, 1, 13 - index);
        }
    }

    private static void latestTenByOrders() {
        ThinVolumes x = Check.withVolumes(9, 9);
        x.set(1, 30);
        Check.newText(x, "w1,0,1;w1,0,1;w1,0,1;w1,0,1;w1,0,1;w1,0,1;");
        Check.due("play()", x.play(), 6);
        Check.due("warnings", x.count(10), 7);
        dueWarning(x, 6, 0, -1, 30);
        x.write(0, 0, 1);
        Check.due("play()", x.play(), 6);
        Check.due("warnings", x.count(10), 10);
        dueWarning(x, 5, 1, 1, 29);
        dueWarning(x, 6, 1, 1, 30);
        dueWarning(x, 9, 1, 1, 30);
    }

    private static void undoBringsTheOldestBack() {
        ThinVolumes x = Check.withVolumes(9, 9);
        x.set(1, 30);
        Check.repeat(9, "write(1, 0, 1)", Check.REFUSED, () -> x.write(1, 0, 1));
        dueWarning(x, 9, 0, -1, 30);
        x.promise(0, 2);
        x.write(1, 0, 1);
        dueWarning(x, 9, 1, 1, 30);
        dueWarning(x, 0, 1, 1, 28);
        x.undo();
        Check.due("warnings", x.count(10), 10);
        dueWarning(x, 9, 0, -1, 30);
        dueWarning(x, 0, 1, 1, 30);
    }

    private static void noneByErrors() {
        Check.sentence("A call that returns an error changes nothing;");
        ThinVolumes x = Check.withVolumes(1, 1);
        x.write(1, 0, 1);
        Check.due("promise(0, 30)", x.promise(0, 30), Check.NOT_POSSIBLE);
        Check.due("promise(0, 31)", x.promise(0, 31), Check.INVALID);
        Check.due("set(1, 31)", x.set(1, 31), Check.INVALID);
        Check.due("write(0, 1, 1)", x.write(0, 1, 1), Check.INVALID);
        Check.due("warnings", x.count(10), 0);
    }

    private static void indexes() {
        Check.sentence("`index`: 0 for the latest one, and so on");
        ThinVolumes x = Check.withVolumes(2, 2);
        int[] none = {0, 1, 9, 10, 11, Integer.MAX_VALUE};
        for (int index : none) {
            Check.due("warningOf(" + index + ", 0), none", x.warningOf(index, 0), Check.NOT_FOUND);
        }
        x.set(1, 30);
        Check.due("warningOf(0, 0)", x.warningOf(0, 0), 0);
        Check.due("warningOf(1, 0), not so many", x.warningOf(1, 0), Check.NOT_FOUND);
        x.write(1, 0, 1);
        Check.due("warningOf(0, 0)", x.warningOf(0, 0), 1);
        Check.due("warningOf(1, 0)", x.warningOf(1, 0), 0);
        Check.due("warningOf(2, 0), not so many", x.warningOf(2, 0), Check.NOT_FOUND);
        int[] wrong = {-1, -2, Integer.MIN_VALUE};
        for (int index : wrong) {
            for (int what = -1; what <= 3; what++) {
                Check.due("warningOf(" + index + ", " + what + ")", x.warningOf(index, what), Check.INVALID);
            }
        }
        int[] wrongWhat = {-1, 3, Integer.MIN_VALUE, Integer.MAX_VALUE};
        for (int what : wrongWhat) {
            Check.due("warningOf(0, " + what + ")", x.warningOf(0, what), Check.INVALID);
            Check.due("warningOf(2, " + what + "), not so many", x.warningOf(2, what), Check.INVALID);
        }
    }

    private static void kindsAndVolumes() {
        Check.sentence("0: its kind; 1: the volume, -1 for kind 0; 2: what was available behind it");
        ThinVolumes x = Check.withVolumes(2, 2, 2, 2, 2, 2, 2, 2);
        x.promise(7, 30);
        dueWarning(x, 0, 0, -1, 0);
        x.promise(0, 0);
        x.write(0, 0, 1);
        dueWarning(x, 0, 1, 0, 0);
        x.promise(7, 1);
        x.write(7, 1, 1);
        dueWarning(x, 0, 2, 7, 29);
        x.promise(7, 29);
        x.write(6, 0, 1);
        dueWarning(x, 0, 1, 6, 0);
        x.drop(7);
        dueWarning(x, 2, 2, 7, 29);
        x.promise(0, 1);
        x.write(0, 0, 1);
        dueWarning(x, 0, 2, 0, 29);
    }
}
