/** Promises 1 to 6: a new object, volume, share, drop, promise and set. */
public final class VolumesTest {
    public static void main(String[] args) {
        newObject();
        volume();
        share();
        drop();
        dropGivesTheParentOn();
        promise();
        promiseAndLevel();
        set();
        setAndLevel();
        Check.end("VolumesTest");
    }

    private static void newObject() {
        ThinVolumes x = new ThinVolumes();
        int[] due = {0, 30, 30, 0, 0, 0, 0, 0, 0, 0, 0, 0, 0};
        for (int what = 0; what < due.length; what++) {
            Check.due("new: count(" + what + ")", x.count(what), due[what]);
        }
        Check.due("new: count(20)", x.count(20), 10);
        Check.due("new: count(21)", x.count(21), 4);
        Check.due("new: count(22)", x.count(22), 40);
        for (int piece = 0; piece < 30; piece++) {
            Check.due("new: pieceOf(" + piece + ", 0)", x.pieceOf(piece, 0), Check.NOT_FOUND);
        }
        for (int volume = 0; volume < 8; volume++) {
            Check.due("new: volumeOf(" + volume + ", 0)", x.volumeOf(volume, 0), Check.INVALID);
        }
    }

    private static void volume() {
        ThinVolumes x = new ThinVolumes();
        Check.due("volume(0)", x.volume(0), Check.INVALID);
        Check.due("volume(-1)", x.volume(-1), Check.INVALID);
        Check.due("volume(41)", x.volume(41), Check.INVALID);
        Check.due("volume(MIN)", x.volume(Integer.MIN_VALUE), Check.INVALID);
        Check.due("errors are no changes", x.count(11), 0);
        for (int number = 0; number < 8; number++) {
            int size = number == 0 ? 1 : number == 1 ? 40 : number;
            Check.due("volume(" + size + ")", x.volume(size), number);
            Check.due("its size", x.volumeOf(number, 0), size);
            Check.due("its manners", x.volumeOf(number, 3), 50);
            Check.due("its promise", x.volumeOf(number, 4), 0);
            Check.due("its parent", x.volumeOf(number, 5), Check.NOT_FOUND);
        }
        Check.due("volume(5), the ninth", x.volume(5), Check.LIMIT);
        Check.due("volume(0), the ninth", x.volume(0), Check.INVALID);
        Check.due("drop(5)", x.drop(5), 0);
        Check.due("drop(3)", x.drop(3), 0);
        Check.due("the lowest number", x.volume(9), 3);
        Check.due("the next one", x.volume(9), 5);
        Check.due("places without a piece", x.volumeOf(3, 1), 0);
        Check.due("value of such a place", x.read(3, 8, 0), 0);
    }

    private static void share() {
        ThinVolumes x = Check.withVolumes(6, 2);
        x.write(0, 0, 7);
        x.write(0, 3, 8);
        x.promise(0, 2);
        x.write(0, 4, 9);
        Check.due("trim(0, 4)", x.trim(0, 4), 1);
        Check.due("share(0)", x.share(0), 2);
        int[] due = {6, 2, 0, 50, 0, 0, 0, 2, 0, 0};
        for (int what = 0; what < due.length; what++) {
            Check.due("clone: volumeOf(2, " + what + ")", x.volumeOf(2, what), due[what]);
        }
        Check.due("clones of 0", x.volumeOf(0, 6), 4);
        for (int place = 0; place < 6; place++) {
            Check.due("piece " + place, x.read(2, place, 1), x.read(0, place, 1));
        }
        Check.due("owners", x.pieceOf(0, 1), 2);
        Check.due("share(3)", x.share(3), Check.INVALID);
        Check.due("share(-1)", x.share(-1), Check.INVALID);
        Check.due("share(8)", x.share(8), Check.INVALID);
        for (int number = 3; number < 8; number++) {
            Check.due("share(2)", x.share(2), number);
        }
        Check.due("share(2), the ninth", x.share(2), Check.LIMIT);
        Check.due("share(9), the ninth", x.share(9), Check.INVALID);
        Check.due("clones of 2", x.volumeOf(2, 6), 0xf8);
        Check.due("owners of piece 0", x.pieceOf(0, 1), 7);
        x.drop(0);
        Check.due("a clone takes the lowest number", x.share(4), 0);
        Check.due("its parent", x.volumeOf(0, 5), 4);
    }

    private static void drop() {
        ThinVolumes x = Check.withVolumes(4, 4);
        Check.fill(x, 0, 3, 5);
        x.share(0);
        x.write(2, 0, 6);
        x.promise(0, 10);
        Check.due("drop(3)", x.drop(3), Check.INVALID);
        Check.due("drop(-1)", x.drop(-1), Check.INVALID);
        Check.due("drop(8)", x.drop(8), Check.INVALID);
        Check.due("drop(0)", x.drop(0), 1);
        Check.due("its promise is given up", x.count(4), 0);
        Check.due("freed", x.count(9), 1);
        Check.due("pieces of the clone", x.pieceOf(1, 2), 4);
        Check.due("pieces of the clone", x.pieceOf(1, 1), 1);
        Check.due("drop(0) again", x.drop(0), Check.INVALID);
        Check.due("drop(2)", x.drop(2), 3);
        Check.due("manners of 1", x.volumeOf(1, 3), 50);
        Check.due("free pieces", x.count(1), 30);
        Check.due("got so far stays", x.count(8), 4);
        x.volume(4);
        x.promise(1, 30);
        x.write(0, 0, 1);
        Check.due("refused", x.volumeOf(0, 8), 1);
        x.drop(0);
        x.volume(4);
        Check.due("a new one was not refused", x.volumeOf(0, 8), 0);
        Check.due("and has its first manners", x.volumeOf(0, 3), 50);
        Check.due("a new one is new", x.volumeOf(0, 9), 0);
        Check.due("and has no pieces", x.volumeOf(0, 1), 0);
        Check.due("and no promise", x.volumeOf(0, 4), 0);
    }

    private static void dropGivesTheParentOn() {
        ThinVolumes x = Check.withVolumes(3);
        x.share(0);
        x.share(1);
        x.share(1);
        x.share(3);
        x.drop(1);
        Check.due("parent of 2", x.volumeOf(2, 5), 0);
        Check.due("parent of 3", x.volumeOf(3, 5), 0);
        Check.due("parent of 4", x.volumeOf(4, 5), 3);
        Check.due("clones of 0", x.volumeOf(0, 6), 12);
        x.drop(0);
        Check.due("parent of 2", x.volumeOf(2, 5), Check.NOT_FOUND);
        Check.due("parent of 3", x.volumeOf(3, 5), Check.NOT_FOUND);
        x.volume(3);
        Check.due("a new 0 has no clones", x.volumeOf(0, 6), 0);
        x.drop(2);
        Check.due("dropping one without clones", x.volumeOf(4, 5), 3);
        x.drop(0);
        x.share(4);
        Check.due("volume 0 as a clone", x.volumeOf(4, 6), 1);
        x.drop(4);
        Check.due("gets its parent's parent", x.volumeOf(0, 5), 3);
        Check.due("which has it", x.volumeOf(3, 6), 1);
    }

    private static void promise() {
        ThinVolumes x = Check.withVolumes(40, 40);
        Check.due("promise(2, 0)", x.promise(2, 0), Check.INVALID);
        Check.due("promise(-1, 0)", x.promise(-1, 0), Check.INVALID);
        Check.due("promise(0, -1)", x.promise(0, -1), Check.INVALID);
        Check.due("promise(0, 31)", x.promise(0, 31), Check.INVALID);
        Check.due("promise(0, 30)", x.promise(0, 30), 0);
        Check.due("promise(1, 1)", x.promise(1, 1), Check.NOT_POSSIBLE);
        Check.due("promise(1, 0)", x.promise(1, 0), 0);
        Check.due("promise(1, 31) rather invalid", x.promise(1, 31), Check.INVALID);
        Check.due("promise(0, 20)", x.promise(0, 20), 30);
        Check.due("promise(1, 11)", x.promise(1, 11), Check.NOT_POSSIBLE);
        Check.due("promise(1, 10)", x.promise(1, 10), 0);
        Check.due("available", x.count(2), 0);
        Check.due("all promises", x.count(4), 30);
        Check.due("write with a promise", x.write(0, 0, 1), 0);
        Check.due("its promise", x.volumeOf(0, 4), 19);
        Check.due("promise(0, 20)", x.promise(0, 20), Check.NOT_POSSIBLE);
        Check.due("promise(0, 19)", x.promise(0, 19), 19);
        Check.due("no pieces are got", x.count(1), 29);
    }

    private static void promiseAndLevel() {
        ThinVolumes x = Check.withVolumes(40);
        x.promise(0, 19);
        Check.due("level with 11", x.count(3), 0);
        Check.due("no warning", x.count(10), 0);
        x.promise(0, 20);
        Check.due("level with 10", x.count(3), 1);
        Check.due("kind", x.warningOf(0, 0), 0);
        Check.due("volume", x.warningOf(0, 1), -1);
        Check.due("available", x.warningOf(0, 2), 10);
        x.promise(0, 25);
        Check.due("level with 5", x.count(3), 1);
        Check.due("no further warning", x.count(10), 1);
        x.promise(0, 26);
        Check.due("level with 4", x.count(3), 2);
        Check.due("a warning", x.count(10), 2);
        x.promise(0, 0);
        Check.due("none when it falls", x.count(10), 2);
        x.promise(0, 30);
        Check.due("one from 0 to 2", x.count(10), 3);
        Check.due("available", x.warningOf(0, 2), 0);
    }

    private static void set() {
        ThinVolumes x = new ThinVolumes();
        Check.due("set(-1, 0)", x.set(-1, 0), Check.INVALID);
        Check.due("set(3, 0)", x.set(3, 0), Check.INVALID);
        int[] first = {10, 4, 40};
        int[] highest = {30, 30, 100};
        for (int what = 0; what < 3; what++) {
            Check.due("set(" + what + ", -1)", x.set(what, -1), Check.INVALID);
            Check.due("set, too high", x.set(what, highest[what] + 1), Check.INVALID);
            Check.due("set(" + what + ", highest)", x.set(what, highest[what]), first[what]);
            Check.due("set(" + what + ", 0)", x.set(what, 0), highest[what]);
            Check.due("count", x.count(20 + what), 0);
        }
    }

    private static void setAndLevel() {
        ThinVolumes x = Check.withVolumes(5);
        x.set(0, 29);
        Check.due("level", x.count(3), 0);
        x.set(0, 30);
        Check.due("level", x.count(3), 1);
        Check.due("a warning", x.warningOf(0, 0), 0);
        Check.due("available", x.warningOf(0, 2), 30);
        x.set(1, 30);
        Check.due("level", x.count(3), 2);
        Check.due("a warning", x.count(10), 2);
        x.set(0, 0);
        Check.due("hard stands ahead of soft", x.count(3), 2);
        x.set(2, 100);
        Check.due("no further warning", x.count(10), 2);
        Check.due("the only volume is the best", x.write(0, 0, 1), 0);
        x.set(1, 0);
        Check.due("level", x.count(3), 0);
        Check.due("level 0 asks no manners", x.write(0, 1, 1), 1);
        Check.due("manners", x.volumeOf(0, 3), 47);
    }
}
