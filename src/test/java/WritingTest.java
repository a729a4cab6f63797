/** Promises 7 to 11: write, trim, sweep, merge and read. */
public final class WritingTest {
    public static void main(String[] args) {
        writeGetsPieces();
        writeToSharedPieces();
        writeByLevel();
        writeAtLevelTwo();
        writeWithPromise();
        writeIntoFullPool();
        trim();
        sweep();
        mannersStayInRange();
        merge();
        read();
        Check.end("WritingTest");
    }

    private static void writeGetsPieces() {
        ThinVolumes x = Check.withVolumes(40, 3);
        Check.due("write(2, 0, 0)", x.write(2, 0, 0), Check.INVALID);
        Check.due("write(-1, 0, 0)", x.write(-1, 0, 0), Check.INVALID);
        Check.due("write(8, 0, 0)", x.write(8, 0, 0), Check.INVALID);
        Check.due("write(1, 3, 0)", x.write(1, 3, 0), Check.INVALID);
        Check.due("write(1, -1, 0)", x.write(1, -1, 0), Check.INVALID);
        Check.due("write(1, 0, -1)", x.write(1, 0, -1), Check.INVALID);
        Check.due("write(1, 0, 100)", x.write(1, 0, 100), Check.INVALID);
        Check.due("nothing changed", x.count(11), 2);
        Check.due("write(1, 2, 99)", x.write(1, 2, 99), 0);
        Check.due("write(0, 39, 0)", x.write(0, 39, 0), 1);
        Check.due("write(0, 0, 4)", x.write(0, 0, 4), 2);
        Check.due("its own piece again", x.write(0, 39, 8), 1);
        Check.due("no piece got", x.count(8), 3);
        Check.due("the new value", x.read(0, 39, 0), 8);
        x.trim(1, 2);
        Check.due("the lowest free one", x.write(0, 5, 1), 0);
        Check.due("and the next", x.write(0, 6, 1), 3);
        Check.due("got by 0", x.volumeOf(0, 9), 4);
        Check.due("got by 1", x.volumeOf(1, 9), 1);
    }

    private static void writeToSharedPieces() {
        ThinVolumes x = Check.withVolumes(3);
        x.write(0, 0, 5);
        x.share(0);
        Check.due("a clone gets one", x.write(1, 0, 6), 1);
        Check.due("the parent's value", x.read(0, 0, 0), 5);
        Check.due("one owner is left", x.pieceOf(0, 1), 1);
        Check.due("then it keeps its piece", x.write(0, 0, 7), 0);
        x.write(0, 1, 7);
        x.merge();
        Check.due("two places of one volume", x.pieceOf(0, 1), 2);
        Check.due("are two owners", x.write(0, 1, 7), 2);
        Check.due("freed by writing", x.count(9), 1);
    }

    private static void writeByLevel() {
        ThinVolumes x = Check.withVolumes(40, 40);
        x.set(2, 50);
        Check.fill(x, 0, 19, 1);
        Check.due("available", x.count(2), 11);
        Check.due("no warning yet", x.count(10), 0);
        Check.due("got at level 0", x.write(0, 19, 1), 19);
        Check.due("a warning behind it", x.warningOf(0, 2), 10);
        Check.due("its manners stay", x.volumeOf(0, 3), 50);
        Check.due("manners of 50 are enough", x.write(0, 20, 1), 20);
        Check.due("3 less", x.volumeOf(0, 3), 47);
        Check.due("47 are not", x.write(0, 21, 1), Check.REFUSED);
        Check.due("1 less", x.volumeOf(0, 3), 46);
        Check.due("refused", x.volumeOf(0, 8), 1);
        Check.due("all refusals", x.count(7), 1);
        Check.due("the place has none", x.read(0, 21, 1), Check.NOT_FOUND);
        Check.due("a warning", x.warningOf(0, 0), 1);
        Check.due("of volume 0", x.warningOf(0, 1), 0);
        Check.due("with 9 available", x.warningOf(0, 2), 9);
        Check.due("writing its own piece", x.write(0, 20, 5), 20);
        Check.due("manners stay", x.volumeOf(0, 3), 46);
        Check.due("the other one gets", x.write(1, 0, 1), 21);
    }

    private static void writeAtLevelTwo() {
        ThinVolumes x = Check.withVolumes(40, 40, 40);
        x.set(1, 30);
        Check.due("1 is not the best", x.write(1, 0, 1), Check.REFUSED);
        Check.due("0 is, by its number", x.write(0, 0, 1), 0);
        Check.due("manners of 0", x.volumeOf(0, 3), 47);
        Check.due("now it is not", x.write(0, 1, 1), Check.REFUSED);
        Check.due("1 has 49", x.write(1, 0, 1), Check.REFUSED);
        Check.due("2 has 50", x.write(2, 0, 1), 1);
        Check.due("1 has 48", x.write(1, 0, 1), 2);
        Check.due("manners of 1", x.volumeOf(1, 3), 45);
        Check.due("setting 2 does not matter", x.set(2, 100), 40);
        Check.due("2 has 47", x.write(2, 1, 1), 3);
        x.share(1);
        Check.due("a clone has 50", x.write(3, 1, 1), 4);
    }

    private static void writeWithPromise() {
        ThinVolumes x = Check.withVolumes(40, 40);
        x.set(1, 30);
        x.promise(1, 2);
        int warnings = x.count(10);
        Check.due("a promised piece", x.write(1, 0, 1), 0);
        Check.due("manners stay", x.volumeOf(1, 3), 50);
        Check.due("promise", x.volumeOf(1, 4), 1);
        Check.due("available stays", x.count(2), 28);
        Check.due("no warning", x.count(10), warnings);
        Check.due("the last promised one", x.write(1, 1, 1), 1);
        Check.due("a warning", x.count(10), warnings + 1);
        Check.due("of kind 2", x.warningOf(0, 0), 2);
        Check.due("of volume 1", x.warningOf(0, 1), 1);
        Check.due("with 28 available", x.warningOf(0, 2), 28);
        Check.due("then it is refused", x.write(1, 2, 1), Check.REFUSED);
        x.promise(1, 1);
        x.promise(1, 0);
        Check.due("not by promise()", x.warningOf(0, 0), 1);
        x.promise(0, 28);
        Check.due("nothing available", x.write(1, 2, 1), Check.REFUSED);
        Check.due("but promised", x.write(0, 2, 1), 2);
        x.promise(0, 3);
        x.write(0, 2, 9);
        Check.due("its own piece needs no promise", x.volumeOf(0, 4), 3);
    }

    private static void writeIntoFullPool() {
        ThinVolumes x = Check.withVolumes(40, 1);
        x.set(0, 0);
        x.set(1, 0);
        Check.fill(x, 0, 30, 1);
        Check.due("full", x.write(0, 30, 1), Check.REFUSED);
        Check.due("full for the other one", x.write(1, 0, 1), Check.REFUSED);
        Check.due("level", x.count(3), 2);
        Check.due("its own pieces can be written", x.write(0, 29, 2), 29);
        x.share(0);
        Check.due("not when shared", x.write(0, 29, 3), Check.REFUSED);
        Check.due("the place stays", x.read(0, 29, 0), 2);
        Check.due("with its piece", x.read(0, 29, 1), 29);
    }

    private static void trim() {
        ThinVolumes x = Check.withVolumes(3, 2);
        x.write(0, 0, 5);
        x.write(0, 1, 5);
        x.share(0);
        Check.due("trim(0, 3)", x.trim(0, 3), Check.INVALID);
        Check.due("trim(0, -1)", x.trim(0, -1), Check.INVALID);
        Check.due("trim(3, 0)", x.trim(3, 0), Check.INVALID);
        Check.due("trim(-1, 0)", x.trim(-1, 0), Check.INVALID);
        Check.due("trim(0, 2)", x.trim(0, 2), Check.NOT_POSSIBLE);
        Check.due("a shared one", x.trim(0, 0), 0);
        Check.due("manners stay", x.volumeOf(0, 3), 50);
        Check.due("the clone's stays", x.read(2, 0, 1), 0);
        Check.due("the place has none", x.read(0, 0, 1), Check.NOT_FOUND);
        Check.due("the last owner", x.trim(2, 0), 1);
        Check.due("2 more", x.volumeOf(2, 3), 52);
        Check.due("it is free", x.pieceOf(0, 0), Check.NOT_FOUND);
        Check.due("freed", x.count(9), 1);
        Check.due("again", x.trim(2, 0), Check.NOT_POSSIBLE);
    }

    private static void sweep() {
        ThinVolumes x = Check.withVolumes(8, 2);
        x.write(0, 0, 0);
        x.write(0, 1, 1);
        x.write(0, 2, 0);
        x.share(0);
        x.write(0, 3, 0);
        x.write(0, 4, 0);
        Check.due("sweep(3)", x.sweep(3), Check.INVALID);
        Check.due("sweep(-1)", x.sweep(-1), Check.INVALID);
        Check.due("sweep(8)", x.sweep(8), Check.INVALID);
        Check.due("sweep(0)", x.sweep(0), 2);
        Check.due("4 more", x.volumeOf(0, 3), 54);
        Check.due("one place left", x.volumeOf(0, 1), 1);
        Check.due("which one", x.read(0, 1, 0), 1);
        Check.due("the clone's are swept", x.sweep(2), 2);
        Check.due("nothing to sweep", x.sweep(2), 0);
        Check.due("an empty volume", x.sweep(1), 0);
        x.write(0, 5, 0);
        x.write(0, 6, 0);
        x.merge();
        Check.due("two owners, one piece", x.sweep(0), 1);
        Check.due("2 more", x.volumeOf(0, 3), 56);
    }

    private static void mannersStayInRange() {
        ThinVolumes x = Check.withVolumes(40, 40);
        Check.fill(x, 0, 20, 0);
        x.sweep(0);
        Check.due("90", x.volumeOf(0, 3), 90);
        Check.fill(x, 0, 4, 0);
        x.sweep(0);
        Check.due("98", x.volumeOf(0, 3), 98);
        Check.fill(x, 0, 2, 0);
        x.sweep(0);
        Check.due("at most 100", x.volumeOf(0, 3), 100);
        x.set(0, 30);
        x.set(1, 0);
        x.set(2, 0);
        Check.fill(x, 1, 16, 1);
        Check.due("2", x.volumeOf(1, 3), 2);
        Check.fill(x, 1, 17, 1);
        Check.due("at least 0", x.volumeOf(1, 3), 0);
        x.set(1, 30);
        Check.due("refused", x.write(1, 20, 1), Check.REFUSED);
        Check.due("still 0", x.volumeOf(1, 3), 0);
    }

    private static void merge() {
        ThinVolumes x = Check.withVolumes(6, 6);
        Check.due("nothing to merge", x.merge(), 0);
        x.write(0, 0, 3);
        x.write(0, 1, 4);
        x.write(1, 0, 3);
        x.write(1, 1, 0);
        x.write(1, 2, 3);
        x.write(0, 2, 0);
        x.trim(0, 0);
        Check.due("merge()", x.merge(), 2);
        Check.due("the lowest number", x.read(1, 2, 1), 2);
        Check.due("has all", x.read(1, 0, 1), 2);
        Check.due("value 0, too", x.read(0, 2, 1), 3);
        Check.due("owners", x.pieceOf(2, 1), 2);
        Check.due("owners", x.pieceOf(3, 2), 3);
        Check.due("free", x.pieceOf(4, 0), Check.NOT_FOUND);
        Check.due("freed", x.count(9), 3);
        Check.due("manners stay", x.volumeOf(1, 3), 50);
        Check.due("again", x.merge(), 0);
        x.trim(0, 1);
        x.write(1, 5, 3);
        x.write(0, 0, 8);
        x.write(1, 5, 8);
        Check.due("the first place of all, too", x.merge(), 1);
        Check.due("its piece", x.read(0, 0, 1), 0);
        Check.due("its piece", x.read(1, 5, 1), 0);
        x.write(1, 5, 2);
        x.trim(0, 0);
        x.write(0, 5, 7);
        x.write(0, 0, 3);
        Check.due("a piece behind the first one", x.read(0, 0, 1), 4);
        Check.due("merge()", x.merge(), 1);
        Check.due("its piece", x.read(0, 0, 1), 2);
        Check.due("it is a change all the same", x.undo(), 3);
    }

    private static void read() {
        ThinVolumes x = Check.withVolumes(2);
        Check.due("value without a piece", x.read(0, 1, 0), 0);
        Check.due("piece without a piece", x.read(0, 1, 1), Check.NOT_FOUND);
        x.write(0, 1, 42);
        Check.due("read(0, 1, 0)", x.read(0, 1, 0), 42);
        Check.due("read(0, 1, 1)", x.read(0, 1, 1), 0);
        Check.due("read(0, 1, 2)", x.read(0, 1, 2), Check.INVALID);
        Check.due("read(0, 1, -1)", x.read(0, 1, -1), Check.INVALID);
        Check.due("read(0, 2, 0)", x.read(0, 2, 0), Check.INVALID);
        Check.due("read(0, -1, 0)", x.read(0, -1, 0), Check.INVALID);
        Check.due("read(1, 0, 0)", x.read(1, 0, 0), Check.INVALID);
        Check.due("read(-1, 0, 0)", x.read(-1, 0, 0), Check.INVALID);
        Check.due("read(8, 0, 0)", x.read(8, 0, 0), Check.INVALID);
    }
}
