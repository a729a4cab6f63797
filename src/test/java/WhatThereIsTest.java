/** Promises 12 to 14: volumeOf, pieceOf and warningOf. */
public final class WhatThereIsTest {
    public static void main(String[] args) {
        volumeOf();
        ranks();
        pieceOf();
        warningOf();
        warningsAreAtMostTen();
        Check.end("WhatThereIsTest");
    }

    private static void dueAll(ThinVolumes x, int volume, int... due) {
        for (int what = 0; what < due.length; what++) {
            Check.due("volumeOf(" + volume + ", " + what + ")", x.volumeOf(volume, what), due[what]);
        }
    }

    private static void volumeOf() {
        ThinVolumes x = Check.withVolumes(12, 7);
        Check.fill(x, 0, 5, 3);
        x.share(0);
        x.write(2, 0, 9);
        x.write(2, 6, 9);
        x.promise(0, 5);
        x.merge();
        // Volume 0 has places 0 to 4 on piece 0; volume 2 has 1 to 4 on it and two places on piece 5.
        dueAll(x, 0, 12, 5, 0, 50, 5, Check.NOT_FOUND, 4, 0, 0, 5);
        dueAll(x, 1, 7, 0, 0, 50, 0, Check.NOT_FOUND, 0, 1, 0, 0);
        dueAll(x, 2, 12, 6, 1, 50, 0, 0, 0, 2, 0, 2);
        Check.due("volumeOf(0, 10)", x.volumeOf(0, 10), Check.INVALID);
        Check.due("volumeOf(0, -1)", x.volumeOf(0, -1), Check.INVALID);
        Check.due("volumeOf(3, 0)", x.volumeOf(3, 0), Check.INVALID);
        Check.due("volumeOf(-1, 0)", x.volumeOf(-1, 0), Check.INVALID);
        Check.due("volumeOf(8, 5)", x.volumeOf(8, 5), Check.INVALID);
        x.set(1, 30);
        x.write(1, 0, 1);
        x.write(1, 0, 1);
        dueAll(x, 1, 7, 0, 0, 48, 0, Check.NOT_FOUND, 0, 2, 2, 0);
        x.drop(2);
        dueAll(x, 0, 12, 5, 1, 50, 5, Check.NOT_FOUND, 0, 0, 0, 5);
    }

    private static void ranks() {
        ThinVolumes x = Check.withVolumes(5, 5, 5, 5);
        x.write(2, 0, 0);
        x.sweep(2);
        x.set(1, 30);
        x.write(0, 0, 1);
        int[] due = {3, 1, 0, 2};
        for (int volume = 0; volume < 4; volume++) {
            Check.due("rank of " + volume, x.volumeOf(volume, 7), due[volume]);
            Check.due("ranked", x.ranked(due[volume]), volume);
        }
        x.drop(2);
        Check.due("rank of 1", x.volumeOf(1, 7), 0);
        Check.due("rank of 0", x.volumeOf(0, 7), 2);
    }

    private static void pieceOf() {
        ThinVolumes x = Check.withVolumes(5, 5, 5);
        x.write(2, 0, 17);
        x.write(2, 3, 17);
        x.write(1, 4, 17);
        x.write(1, 0, 0);
        x.merge();
        Check.due("value", x.pieceOf(0, 0), 17);
        Check.due("owners", x.pieceOf(0, 1), 3);
        Check.due("volumes", x.pieceOf(0, 2), 6);
        Check.due("value 0", x.pieceOf(3, 0), 0);
        Check.due("owners", x.pieceOf(3, 1), 1);
        Check.due("volumes", x.pieceOf(3, 2), 2);
        for (int what = 0; what < 3; what++) {
            Check.due("free", x.pieceOf(1, what), Check.NOT_FOUND);
            Check.due("free", x.pieceOf(29, what), Check.NOT_FOUND);
            Check.due("pieceOf(30)", x.pieceOf(30, what), Check.INVALID);
            Check.due("pieceOf(-1)", x.pieceOf(-1, what), Check.INVALID);
        }
        Check.due("pieceOf(0, 3)", x.pieceOf(0, 3), Check.INVALID);
        Check.due("pieceOf(0, -1)", x.pieceOf(0, -1), Check.INVALID);
        Check.due("a free one, pieceOf(1, 3)", x.pieceOf(1, 3), Check.INVALID);
    }

    private static void dueWarning(ThinVolumes x, int index, int kind, int volume, int available) {
        Check.due("kind of " + index, x.warningOf(index, 0), kind);
        Check.due("volume of " + index, x.warningOf(index, 1), volume);
        Check.due("available behind " + index, x.warningOf(index, 2), available);
    }

    private static void warningOf() {
        ThinVolumes x = Check.withVolumes(9, 9);
        Check.due("none", x.warningOf(0, 0), Check.NOT_FOUND);
        Check.due("warningOf(-1, 0)", x.warningOf(-1, 0), Check.INVALID);
        Check.due("warningOf(0, 3)", x.warningOf(0, 3), Check.INVALID);
        Check.due("warningOf(0, -1)", x.warningOf(0, -1), Check.INVALID);
        x.promise(1, 1);
        x.set(0, 29);
        x.write(1, 0, 1);
        x.set(1, 29);
        x.write(1, 1, 1);
        dueWarning(x, 0, 1, 1, 29);
        dueWarning(x, 1, 0, -1, 29);
        dueWarning(x, 2, 2, 1, 29);
        dueWarning(x, 3, 0, -1, 29);
        Check.due("no more", x.warningOf(4, 0), Check.NOT_FOUND);
        Check.due("no more", x.warningOf(Integer.MAX_VALUE, 2), Check.NOT_FOUND);
        x.undo();
        Check.due("undo takes it back", x.count(10), 3);
        dueWarning(x, 0, 0, -1, 29);
        x.undo();
        x.undo();
        Check.due("undo makes none", x.count(10), 1);
    }

    private static void warningsAreAtMostTen() {
        ThinVolumes x = Check.withVolumes(9, 9);
        x.set(0, 30);
        x.set(1, 30);
        for (int count = 3; count <= 9; count++) {
            x.write(1, 0, 1);
            Check.due("kept", x.count(10), count);
        }
        x.promise(0, 1);
        x.write(0, 0, 1);
        Check.due("kept", x.count(10), 10);
        x.write(1, 0, 1);
        Check.due("still kept", x.count(10), 10);
        dueWarning(x, 0, 1, 1, 29);
        dueWarning(x, 1, 2, 0, 29);
        dueWarning(x, 2, 1, 1, 30);
        dueWarning(x, 8, 1, 1, 30);
        dueWarning(x, 9, 0, -1, 30);
        Check.due("warningOf(10, 0)", x.warningOf(10, 0), Check.NOT_FOUND);
        x.write(1, 0, 1);
        dueWarning(x, 9, 1, 1, 30);
    }
}
