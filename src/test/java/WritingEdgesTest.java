/** The edges that "Writing", "Manners" and "Clones" name, a sentence at a time. */
public final class WritingEdgesTest {
    public static void main(String[] args) {
        pieceWithoutOtherOwner();
        placeWithoutPiece();
        pieceWithOtherOwners();
        pieceOfTwoPlacesOfOneVolume();
        trimTakesOneOwner();
        trimOfTheLastOwner();
        sweepTrimsValueZero();
        sweepOfNothingAndOfAll();
        mergeByValue();
        mergeToTheLowest();
        mergeOfNothingAndOfAll();
        mergeLeavesFreePieces();
        mannersForFreedPieces();
        mannersStayAtMost100();
        mannersForUnpromisedPieces();
        mannersFallByLevelAhead();
        mannersForRefusals();
        mannersStayAtLeastZero();
        cloneIsAsNew();
        cloneSharesAll();
        cloneNeedsNoPiece();
        droppedTrimsAll();
        droppedGivesPromiseUp();
        droppedGivesParentOn();
        Check.end("WritingEdgesTest");
    }

    private static void pieceWithoutOtherOwner() {
        Check.sentence("if its piece has no other owner, this piece has the value then.");
        ThinVolumes x = Check.withFullPool(40, 1);
        Check.due("in a full pool", x.write(0, 29, 99), 29);
        Check.due("its value", x.read(0, 29, 0), 99);
        Check.due("value 0", x.write(0, 0, 0), 0);
        Check.due("its value", x.read(0, 0, 0), 0);
        Check.due("it keeps its piece", x.read(0, 0, 1), 0);
        Check.due("the same value again", x.write(0, 0, 0), 0);
        Check.due("no piece is got", x.count(8), 30);
        Check.due("nor by the volume", x.volumeOf(0, 9), 30);
        Check.due("manners", x.volumeOf(0, 3), 50);
        Check.due("refusals", x.count(7), 0);
        x.trim(0, 5);
        x.promise(0, 1);
        Check.due("with a promise", x.write(0, 6, 3), 6);
        Check.due("which stays", x.volumeOf(0, 4), 1);
        Check.due("and frees none", x.count(9), 1);
    }

    private static void placeWithoutPiece() {
        Check.sentence("Otherwise (it has no piece, or one with other owners) the volume needs a piece");
        ThinVolumes x = Check.withVolumes(2);
        Check.due("value 0 to a place whose value is 0", x.write(0, 0, 0), 0);
        Check.due("needs a piece all the same", x.read(0, 0, 1), 0);
        Check.due("pieces got", x.count(8), 1);
        x.trim(0, 0);
        Check.due("a trimmed place needs one again", x.write(0, 0, 0), 0);
        Check.due("pieces got", x.count(8), 2);
    }

    private static void pieceWithOtherOwners() {
        Check.sentence("which comes to this place in place of the other one, and has the value; "
            + "the other piece has an owner less.");
        ThinVolumes x = Check.withVolumes(2);
        x.write(0, 1, 7);
        x.share(0);
        x.share(0);
        Check.due("owners", x.pieceOf(0, 1), 3);
        Check.due("a clone writes", x.write(2, 1, 8), 1);
        Check.due("owners of the other piece", x.pieceOf(0, 1), 2);
        Check.due("volumes that own it", x.pieceOf(0, 2), 3);
        Check.due("the same value", x.write(0, 1, 7), 2);
        Check.due("owners of the other piece", x.pieceOf(0, 1), 1);
        Check.due("its value", x.pieceOf(0, 0), 7);
        Check.due("owner of the new piece", x.pieceOf(2, 2), 1);
        Check.due("the last owner has it alone", x.write(1, 1, 9), 0);
        Check.due("its value", x.read(1, 1, 0), 9);
        Check.due("the other ones' values", x.read(0, 1, 0), 7);
        Check.due("the other ones' values", x.read(2, 1, 0), 8);
        Check.due("none became free", x.count(9), 0);
        Check.due("pieces got", x.count(8), 3);
    }

    private static void pieceOfTwoPlacesOfOneVolume() {
        ThinVolumes x = Check.withVolumes(3);
        x.write(0, 0, 4);
        x.write(0, 2, 4);
        x.merge();
        Check.due("the other place is another owner", x.write(0, 2, 5), 1);
        Check.due("which keeps its value", x.read(0, 0, 0), 4);
        Check.due("and its piece", x.read(0, 0, 1), 0);
        Check.due("owners", x.pieceOf(0, 1), 1);
    }

    private static void trimTakesOneOwner() {
        Check.sentence("To trim a place: its piece has an owner less, and the place has none.");
        ThinVolumes x = Check.withVolumes(2);
        x.write(0, 1, 7);
        x.share(0);
        Check.due("one of two owners", x.trim(0, 1), 0);
        Check.due("owners", x.pieceOf(0, 1), 1);
        Check.due("the place has none", x.read(0, 1, 1), Check.NOT_FOUND);
        Check.due("and value 0", x.read(0, 1, 0), 0);
        Check.due("the other place has it", x.read(1, 1, 1), 0);
        Check.due("with its value", x.read(1, 1, 0), 7);
        Check.due("free pieces", x.count(1), 29);
    }

    private static void trimOfTheLastOwner() {
        Check.sentence("A piece without owners is free.");
        ThinVolumes x = Check.withVolumes(2, 40);
        x.write(1, 39, 7);
        x.write(1, 0, 0);
        Check.due("the only owner", x.trim(1, 39), 1);
        Check.due("pieceOf(0, 1)", x.pieceOf(0, 1), Check.NOT_FOUND);
        Check.due("free pieces", x.count(1), 29);
        Check.due("the only owner", x.trim(1, 0), 1);
        Check.due("free pieces", x.count(1), 30);
        Check.due("became free", x.count(9), 2);
        Check.due("a free piece can be got", x.write(0, 0, 3), 0);
    }

    private static void sweepTrimsValueZero() {
        Check.sentence("To sweep a volume: all its places whose pieces have the value 0 are trimmed.");
        ThinVolumes x = Check.withVolumes(40, 2);
        x.write(0, 0, 0);
        x.write(0, 1, 1);
        x.write(0, 39, 0);
        x.write(0, 38, 99);
        x.write(0, 20, 5);
        x.write(0, 20, 0);
        x.write(1, 0, 0);
        Check.due("sweep(0)", x.sweep(0), 3);
        Check.due("the first place", x.read(0, 0, 1), Check.NOT_FOUND);
        Check.due("the last place", x.read(0, 39, 1), Check.NOT_FOUND);
        Check.due("one that became 0", x.read(0, 20, 1), Check.NOT_FOUND);
        Check.due("value 1 stays", x.read(0, 1, 1), 1);
        Check.due("value 99 stays", x.read(0, 38, 1), 3);
        Check.due("another volume's stays", x.read(1, 0, 1), 5);
        Check.due("places that have pieces", x.volumeOf(0, 1), 2);
        x.share(1);
        Check.due("a shared one is trimmed", x.sweep(1), 0);
        Check.due("its place has none", x.read(1, 0, 1), Check.NOT_FOUND);
        Check.due("its other owner has it", x.pieceOf(5, 2), 4);
        Check.due("and is the last one", x.sweep(2), 1);
    }

    private static void sweepOfNothingAndOfAll() {
        ThinVolumes x = Check.withFullPool(40, 5);
        Check.due("places without pieces", x.sweep(1), 0);
        Check.due("no value 0", x.sweep(0), 0);
        for (int place = 0; place < 30; place++) {
            x.write(0, place, 0);
        }
        Check.due("all", x.sweep(0), 30);
        Check.due("free pieces", x.count(1), 30);
        Check.due("places that have pieces", x.volumeOf(0, 1), 0);
        Check.due("again", x.sweep(0), 0);
    }

    private static void mergeByValue() {
        Check.sentence("To merge: for each value, all pieces with this value that are not free become one");
        ThinVolumes x = Check.withVolumes(10);
        int[] values = {0, 99, 0, 1, 99, 98, 1, 99};
        for (int place = 0; place < values.length; place++) {
            Check.due("write", x.write(0, place, values[place]), place);
        }
        Check.due("merge()", x.merge(), 4);
        int[] pieces = {0, 1, 0, 3, 1, 5, 3, 1};
        for (int place = 0; place < values.length; place++) {
            Check.due("piece of place " + place, x.read(0, place, 1), pieces[place]);
            Check.due("value of place " + place, x.read(0, place, 0), values[place]);
        }
        Check.due("owners with value 0", x.pieceOf(0, 1), 2);
        Check.due("owners with value 99", x.pieceOf(1, 1), 3);
        Check.due("owners with value 98", x.pieceOf(5, 1), 1);
        Check.due("a place without a piece stays so", x.read(0, 9, 1), Check.NOT_FOUND);
        Check.due("manners", x.volumeOf(0, 3), 50);
    }

    private static void mergeToTheLowest() {
        Check.sentence("the one with the lowest number, which has all their owners; the others are free.");
        ThinVolumes x = Check.withFullPool(40, 2);
        x.share(1);
        x.trim(0, 0);
        x.write(1, 1, 2);
        x.write(0, 29, 2);
        x.share(0);
        Check.due("owners of 0", x.pieceOf(0, 1), 1);
        Check.due("owners of 29", x.pieceOf(29, 1), 2);
        Check.due("merge()", x.merge(), 28);
        Check.due("0 is the lowest", x.read(0, 29, 1), 0);
        Check.due("it has all", x.pieceOf(0, 1), 3);
        Check.due("of three volumes", x.pieceOf(0, 2), 11);
        Check.due("29 is free", x.pieceOf(29, 0), Check.NOT_FOUND);
        Check.due("1 is the other one", x.pieceOf(1, 1), 56);
        Check.due("free pieces", x.count(1), 28);
        Check.due("became free", x.count(9), 29);
    }

    private static void mergeOfNothingAndOfAll() {
        ThinVolumes x = new ThinVolumes();
        Check.due("without volumes", x.merge(), 0);
        x.volume(2);
        Check.due("without pieces", x.merge(), 0);
        x.write(0, 0, 0);
        Check.due("one piece", x.merge(), 0);
        x.write(0, 1, 1);
        Check.due("two values", x.merge(), 0);
        x.write(0, 1, 0);
        Check.due("one value", x.merge(), 1);
        Check.due("again", x.merge(), 0);
        Check.due("owners", x.pieceOf(0, 1), 2);
        ThinVolumes y = Check.withFullPool(40);
        Check.due("a full pool of one value", y.merge(), 29);
        Check.due("owners", y.pieceOf(0, 1), 30);
        ThinVolumes z = Check.withFullPool(40);
        for (int place = 0; place < 30; place++) {
            z.write(0, place, 70 + place);
        }
        Check.due("a full pool of thirty values", z.merge(), 0);
    }

    private static void mergeLeavesFreePieces() {
        Check.sentence("all pieces with this value that are not free become one");
        ThinVolumes x = Check.withVolumes(4);
        x.write(0, 0, 6);
        x.write(0, 1, 6);
        x.write(0, 2, 6);
        x.trim(0, 0);
        x.trim(0, 2);
        Check.due("0 and 2 had this value, too", x.merge(), 0);
        Check.due("1 keeps its owner", x.pieceOf(1, 1), 1);
        Check.due("0 stays free", x.pieceOf(0, 0), Check.NOT_FOUND);
        Check.due("2 stays free", x.pieceOf(2, 0), Check.NOT_FOUND);
        ThinVolumes y = Check.withVolumes(4);
        y.write(0, 0, 6);
        Check.due("pieces that were never got have no value 0", y.merge(), 0);
        y.write(0, 1, 0);
        Check.due("nor then", y.merge(), 0);
        Check.due("it keeps its piece", y.read(0, 1, 1), 1);
    }

    private static void mannersForFreedPieces() {
        Check.sentence("2 more for each piece that becomes free when a place of it is trimmed (also when it is swept);");
        ThinVolumes x = Check.withVolumes(9, 9);
        Check.fill(x, 0, 7, 0);
        x.share(0);
        Check.due("shared", x.trim(0, 0), 0);
        Check.due("none for it", x.volumeOf(0, 3), 50);
        Check.due("the last owner", x.trim(2, 0), 1);
        Check.due("2 for it", x.volumeOf(2, 3), 52);
        Check.due("none for the other one", x.volumeOf(0, 3), 50);
        x.trim(2, 1);
        x.trim(2, 2);
        x.trim(2, 3);
        Check.due("3 of 6 become free", x.sweep(0), 3);
        Check.due("2 for each", x.volumeOf(0, 3), 56);
        Check.due("none for the others", x.volumeOf(1, 3), 50);
        Check.due("merging", x.merge(), 2);
        Check.due("none for merging", x.volumeOf(2, 3), 52);
        Check.due("three places, one piece", x.sweep(2), 1);
        Check.due("2 for it", x.volumeOf(2, 3), 54);
        x.write(1, 0, 1);
        x.share(1);
        Check.due("drop(1)", x.drop(1) + x.drop(3), 1);
        Check.due("none for others by dropping", x.volumeOf(0, 3), 56);
    }

    /** Writes and trims place 0 of a volume at level 0, for 2 more each time. */
    private static void improve(ThinVolumes x, int volume, int times) {
        for (int time = 0; time < times; time++) {
            x.write(volume, 0, 1);
            x.trim(volume, 0);
        }
    }

    private static void mannersStayAtMost100() {
        Check.sentence("They stay between 0 and 100.");
        ThinVolumes x = Check.withVolumes(9, 9);
        improve(x, 0, 24);
        Check.due("98", x.volumeOf(0, 3), 98);
        improve(x, 0, 1);
        Check.due("98 and 2", x.volumeOf(0, 3), 100);
        improve(x, 0, 1);
        Check.due("100 and 2", x.volumeOf(0, 3), 100);
        x.write(0, 0, 1);
        x.promise(1, 29);
        Check.due("nothing is available", x.write(0, 1, 1), Check.REFUSED);
        Check.due("99", x.volumeOf(0, 3), 99);
        x.trim(0, 0);
        Check.due("99 and 2", x.volumeOf(0, 3), 100);
        ThinVolumes y = Check.withVolumes(9);
        improve(y, 0, 23);
        Check.fill(y, 0, 2, 0);
        y.sweep(0);
        Check.due("96 and twice 2", y.volumeOf(0, 3), 100);
        Check.fill(y, 0, 9, 0);
        y.sweep(0);
        Check.due("100 and nine times 2", y.volumeOf(0, 3), 100);
        ThinVolumes z = Check.withVolumes(9);
        improve(z, 0, 23);
        Check.fill(z, 0, 3, 0);
        z.sweep(0);
        Check.due("96 and three times 2", z.volumeOf(0, 3), 100);
    }

    private static void mannersForUnpromisedPieces() {
        Check.sentence("3 less if it gets a piece that was not promised, at level 1 or 2");
        ThinVolumes x = Check.withVolumes(9, 9);
        x.write(0, 0, 1);
        Check.due("level 0", x.volumeOf(0, 3), 50);
        x.set(0, 30);
        x.write(0, 1, 1);
        Check.due("level 1", x.volumeOf(0, 3), 47);
        x.set(1, 30);
        x.write(1, 0, 1);
        Check.due("level 2", x.volumeOf(1, 3), 47);
        x.promise(0, 2);
        x.write(0, 2, 1);
        Check.due("promised, level 2", x.volumeOf(0, 3), 47);
        x.set(1, 0);
        x.write(0, 3, 1);
        Check.due("promised, level 1", x.volumeOf(0, 3), 47);
        x.write(0, 4, 1);
        Check.due("the promise is 0", x.volumeOf(0, 3), 44);
        x.write(0, 4, 2);
        Check.due("a piece of its own", x.volumeOf(0, 3), 44);
        Check.due("the other one's", x.volumeOf(1, 3), 47);
    }

    private static void mannersFallByLevelAhead() {
        Check.sentence("(as the level was ahead of it)");
        ThinVolumes x = Check.withVolumes(9);
        x.set(0, 29);
        x.set(1, 28);
        Check.due("level ahead", x.count(3), 0);
        x.write(0, 0, 1);
        Check.due("level behind", x.count(3), 1);
        Check.due("manners", x.volumeOf(0, 3), 50);
        x.write(0, 1, 1);
        Check.due("level behind", x.count(3), 2);
        Check.due("manners", x.volumeOf(0, 3), 47);
        x.write(0, 2, 1);
        Check.due("manners", x.volumeOf(0, 3), 44);
        ThinVolumes y = Check.withVolumes(9);
        y.set(0, 29);
        y.set(1, 29);
        y.write(0, 0, 1);
        Check.due("level from 0 to 2", y.count(3), 2);
        Check.due("manners", y.volumeOf(0, 3), 50);
    }

    private static void mannersForRefusals() {
        Check.sentence("1 less if it is refused.");
        ThinVolumes x = Check.withVolumes(9, 9);
        x.set(1, 30);
        for (int time = 1; time <= 3; time++) {
            Check.due("write(1, 0, 1)", x.write(1, 0, 1), Check.REFUSED);
            Check.due("manners", x.volumeOf(1, 3), 50 - time);
            Check.due("the other one's", x.volumeOf(0, 3), 50);
        }
        x.set(1, 0);
        x.set(0, 30);
        x.set(2, 48);
        Check.due("at level 1", x.write(1, 0, 1), Check.REFUSED);
        Check.due("manners", x.volumeOf(1, 3), 46);
        x.promise(0, 30);
        Check.due("nothing available", x.write(1, 0, 1), Check.REFUSED);
        Check.due("manners", x.volumeOf(1, 3), 45);
    }

    private static void mannersStayAtLeastZero() {
        Check.sentence("They stay between 0 and 100.");
        ThinVolumes x = Check.withVolumes(9, 30);
        x.set(1, 30);
        Check.repeat(49, "write(1, 0, 1)", Check.REFUSED, () -> x.write(1, 0, 1));
        Check.due("1", x.volumeOf(1, 3), 1);
        x.write(1, 0, 1);
        Check.due("1 less 1", x.volumeOf(1, 3), 0);
        x.write(1, 0, 1);
        Check.due("0 less 1", x.volumeOf(1, 3), 0);
        Check.due("its refusals", x.volumeOf(1, 8), 51);
        int[] refusals = {0, 1, 2};
        int[] last = {2, 1, 3};
        for (int row = 0; row < refusals.length; row++) {
            ThinVolumes y = Check.withVolumes(5, 30);
            y.set(1, 30);
            Check.repeat(refusals[row], "write(1, 0, 1)", Check.REFUSED, () -> y.write(1, 0, 1));
            y.drop(0);
            for (int place = 0; y.volumeOf(1, 3) > 3; place++) {
                y.write(1, place, 1);
            }
            Check.due("manners", y.volumeOf(1, 3), last[row]);
            Check.due("a piece", y.write(1, 28, 1) >= 0);
            Check.due(last[row] + " less 3", y.volumeOf(1, 3), 0);
            Check.due("a piece", y.write(1, 29, 1) >= 0);
            Check.due("0 less 3", y.volumeOf(1, 3), 0);
        }
    }

    private static void cloneIsAsNew() {
        Check.sentence("its manners are 50, it has no promise, and was not refused and has got nothing so far; "
            + "the volume is its parent.");
        ThinVolumes x = Check.withVolumes(9, 4, 9);
        x.set(1, 30);
        x.promise(2, 2);
        x.write(2, 0, 1);
        x.write(1, 0, 1);
        x.write(1, 1, 1);
        x.drop(1);
        x.set(1, 0);
        improve(x, 2, 3);
        x.write(2, 3, 1);
        x.set(1, 30);
        x.write(2, 4, 1);
        x.write(0, 0, 1);
        x.promise(2, 5);
        Check.due("share(2), with the number of a refused one", x.share(2), 1);
        Check.due("the volume's manners", x.volumeOf(2, 3), 53);
        int[] due = {9, 2, 0, 50, 0, 2, 0, 1, 0, 0};
        for (int what = 0; what < due.length; what++) {
            Check.due("volumeOf(1, " + what + ")", x.volumeOf(1, what), due[what]);
        }
        Check.due("the volume's promise stays", x.volumeOf(2, 4), 5);
        Check.due("a clone of the clone", x.share(1), 3);
        Check.due("its parent", x.volumeOf(3, 5), 1);
        Check.due("of one that was refused", x.volumeOf(0, 3), 49);
        Check.due("share(0)", x.share(0), 4);
        Check.due("manners", x.volumeOf(4, 3), 50);
        Check.due("refusals", x.volumeOf(4, 8), 0);
    }

    private static void cloneSharesAll() {
        Check.sentence("A clone of a volume has its size and shares all its pieces;");
        ThinVolumes x = Check.withVolumes(40, 1, 3);
        x.write(0, 0, 1);
        x.write(0, 39, 2);
        x.write(1, 0, 3);
        Check.due("of size 40", x.share(0), 3);
        Check.due("size", x.volumeOf(3, 0), 40);
        Check.due("the first place", x.read(3, 0, 1), 0);
        Check.due("the last place", x.read(3, 39, 1), 1);
        Check.due("places that have pieces", x.volumeOf(3, 1), 2);
        Check.due("the last place can be written", x.write(3, 39, 5), 3);
        Check.due("the volume's stays", x.read(0, 39, 0), 2);
        Check.due("one behind it", x.write(3, 40, 5), Check.INVALID);
        Check.due("of size 1", x.share(1), 4);
        Check.due("size", x.volumeOf(4, 0), 1);
        Check.due("one behind it", x.read(4, 1, 0), Check.INVALID);
        Check.due("owners", x.pieceOf(2, 2), 18);
        Check.due("of an empty volume", x.share(2), 5);
        Check.due("places that have pieces", x.volumeOf(5, 1), 0);
    }

    private static void cloneNeedsNoPiece() {
        ThinVolumes x = Check.withFullPool(40);
        Check.due("in a full pool", x.share(0), 1);
        Check.due("places that have pieces", x.volumeOf(1, 1), 30);
        Check.due("pieces with more than one owner", x.count(6), 30);
        Check.due("pieces got", x.count(8), 30);
        Check.due("refusals", x.count(7), 0);
        Check.due("writing needs one", x.write(1, 0, 1), Check.REFUSED);
        Check.due("for the volume, too", x.write(0, 29, 1), Check.REFUSED);
        Check.due("owners", x.pieceOf(29, 1), 2);
    }

    private static void droppedTrimsAll() {
        Check.sentence("If a volume is dropped, all its places are trimmed (which does not matter for manners)");
        ThinVolumes x = Check.withFullPool(40, 5);
        x.trim(0, 29);
        x.write(1, 4, 1);
        x.share(0);
        Check.due("all are shared", x.drop(0), 0);
        Check.due("the last owner", x.drop(2), 29);
        Check.due("free pieces", x.count(1), 29);
        Check.due("manners of the other one", x.volumeOf(1, 3), 50);
        Check.due("its piece", x.read(1, 4, 1), 29);
        Check.due("the last volume", x.drop(1), 1);
        Check.due("free pieces", x.count(1), 30);
        x.volume(40);
        Check.due("a new one with the number has no pieces", x.volumeOf(0, 1), 0);
        Check.due("without pieces", x.drop(0), 0);
        Check.due("places that have pieces", x.count(5), 0);
    }

    private static void droppedGivesPromiseUp() {
        Check.sentence("its promise is given up");
        ThinVolumes x = Check.withVolumes(3, 3);
        x.promise(0, 30);
        x.drop(0);
        Check.due("all promises", x.count(4), 0);
        Check.due("available", x.count(2), 30);
        Check.due("a new one", x.volume(3), 0);
        Check.due("has none", x.volumeOf(0, 4), 0);
        Check.due("another one can have it", x.promise(1, 30), 0);
    }

    private static void droppedGivesParentOn() {
        Check.sentence("its clones have its parent, or none if it has none.");
        ThinVolumes x = Check.withVolumes(3);
        for (int volume = 0; volume < 7; volume++) {
            x.share(volume);
        }
        x.drop(7);
        Check.due("the last of eight", x.volumeOf(6, 6), 0);
        x.drop(0);
        Check.due("the first of eight", x.volumeOf(1, 5), Check.NOT_FOUND);
        Check.due("the next one", x.volumeOf(2, 5), 1);
        x.drop(3);
        Check.due("one between", x.volumeOf(4, 5), 2);
        Check.due("clones", x.volumeOf(2, 6), 16);
        Check.due("a new one with its number", x.volume(3), 0);
        Check.due("has no clones", x.volumeOf(0, 6), 0);
        x.share(4);
        x.share(2);
        Check.due("clones of 2", x.volumeOf(2, 6), 16 + 128);
        x.drop(2);
        Check.due("both have its parent", x.volumeOf(1, 6), 16 + 128);
        x.drop(1);
        Check.due("both have none", x.volumeOf(4, 5), Check.NOT_FOUND);
        Check.due("both have none", x.volumeOf(7, 5), Check.NOT_FOUND);
        Check.due("another one keeps its parent", x.volumeOf(3, 5), 4);
    }
}
