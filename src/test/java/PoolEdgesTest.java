/** The edges that "The pool", "Levels" and "Settings" name, a sentence at a time. */
public final class PoolEdgesTest {
    public static void main(String[] args) {
        thirtyPieces();
        valuesOfPieces();
        placesAreOwners();
        mostOwners();
        eightVolumes();
        sizesAndPlaces();
        firstManners();
        promisesSetAside();
        availableIsNeverBelowZero();
        hardAndSoftLevel();
        levelsThatMeet();
        levelsAtTheirEnds();
        promisedPieces();
        somethingAvailable();
        levelZero();
        levelOne();
        levelOneAtTheEndsOfManners();
        levelTwo();
        levelTwoAtTheEndsOfManners();
        refused();
        lowestFreePiece();
        settings();
        Check.end("PoolEdgesTest");
    }

    private static void thirtyPieces() {
        Check.sentence("The pool has 30 pieces, numbered from 0.");
        ThinVolumes x = Check.withVolumes(40);
        x.set(2, 0);
        for (int piece = 0; piece < 30; piece++) {
            Check.due("free pieces", x.count(1), 30 - piece);
            Check.due("pieceOf(" + piece + ", 1), free", x.pieceOf(piece, 1), Check.NOT_FOUND);
            Check.due("write(0, " + piece + ", 1)", x.write(0, piece, 1), piece);
            Check.due("pieceOf(" + piece + ", 1)", x.pieceOf(piece, 1), 1);
        }
        Check.due("free pieces", x.count(1), 0);
        Check.due("write(0, 30, 1)", x.write(0, 30, 1), Check.REFUSED);
        Check.due("pieceOf(30, 1)", x.pieceOf(30, 1), Check.INVALID);
        Check.due("pieceOf(-1, 1)", x.pieceOf(-1, 1), Check.INVALID);
    }

    private static void valuesOfPieces() {
        Check.sentence("A piece is free, or it has a value (0 to 99) and one owner or more");
        ThinVolumes x = Check.withVolumes(2);
        Check.due("write(0, 0, 0)", x.write(0, 0, 0), 0);
        Check.due("a piece with value 0 has it", x.pieceOf(0, 0), 0);
        Check.due("and an owner", x.pieceOf(0, 1), 1);
        Check.due("and is not free", x.count(1), 29);
        Check.due("write(0, 1, 99)", x.write(0, 1, 99), 1);
        Check.due("the highest value", x.pieceOf(1, 0), 99);
        Check.due("write(0, 1, 100)", x.write(0, 1, 100), Check.INVALID);
        Check.due("write(0, 1, -1)", x.write(0, 1, -1), Check.INVALID);
        Check.due("the value stays", x.pieceOf(1, 0), 99);
        Check.due("trim(0, 1)", x.trim(0, 1), 1);
        Check.due("a free piece has no value", x.pieceOf(1, 0), Check.NOT_FOUND);
        Check.due("nor owners", x.pieceOf(1, 1), Check.NOT_FOUND);
    }

    private static void placesAreOwners() {
        Check.sentence("places of volumes (two places of one volume are two owners)");
        ThinVolumes x = Check.withVolumes(2);
        x.write(0, 0, 6);
        x.write(0, 1, 6);
        Check.due("merge()", x.merge(), 1);
        Check.due("owners", x.pieceOf(0, 1), 2);
        Check.due("volumes", x.pieceOf(0, 2), 1);
        Check.due("pieces of which volume 0 has all owners", x.volumeOf(0, 2), 1);
        Check.due("pieces with more than one owner", x.count(6), 1);
        Check.due("the other place keeps it", x.trim(0, 0), 0);
        Check.due("owners", x.pieceOf(0, 1), 1);
        Check.due("the last place", x.trim(0, 1), 1);
    }

    private static void mostOwners() {
        Check.sentence("one owner or more: places of volumes (two places of one volume are two owners)");
        ThinVolumes x = Check.withFullPool(40);
        Check.due("merge()", x.merge(), 29);
        Check.due("owners", x.pieceOf(0, 1), 30);
        for (int place = 30; place < 40; place++) {
            Check.due("write(0, " + place + ", 1)", x.write(0, place, 1), place - 29);
        }
        Check.due("merge()", x.merge(), 10);
        for (int clone = 1; clone < 8; clone++) {
            Check.due("share(0)", x.share(0), clone);
        }
        Check.due("owners", x.pieceOf(0, 1), 320);
        Check.due("volumes", x.pieceOf(0, 2), 255);
        Check.due("places that have pieces", x.count(5), 320);
        Check.due("free pieces", x.count(1), 29);
        Check.due("pieces with more than one owner", x.count(6), 1);
        Check.due("read(7, 39, 0)", x.read(7, 39, 0), 1);
    }

    private static void eightVolumes() {
        Check.sentence("There are at most 8 volumes that live, with numbers 0 to 7;");
        ThinVolumes x = new ThinVolumes();
        for (int number = 0; number < 8; number++) {
            Check.due("volumes", x.count(0), number);
            Check.due("volumeOf(" + number + ", 0) ahead", x.volumeOf(number, 0), Check.INVALID);
            Check.due("volume(2)", x.volume(2), number);
            Check.due("volumeOf(" + number + ", 0) behind", x.volumeOf(number, 0), 2);
        }
        Check.due("the ninth volume", x.volume(2), Check.LIMIT);
        Check.due("the ninth volume, a clone", x.share(0), Check.LIMIT);
        Check.due("volumes", x.count(0), 8);
        Check.due("volumeOf(8, 0)", x.volumeOf(8, 0), Check.INVALID);
        Check.sentence("a new volume gets the lowest number that no volume has.");
        x.drop(7);
        Check.due("7 is the only one", x.volume(2), 7);
        x.drop(6);
        x.drop(0);
        x.drop(3);
        Check.due("0 of 0, 3 and 6", x.share(7), 0);
        Check.due("3 of 3 and 6", x.volume(2), 3);
        Check.due("6 is left", x.share(0), 6);
        Check.due("none is left", x.volume(2), Check.LIMIT);
        for (int number = 7; number >= 0; number--) {
            x.drop(number);
        }
        Check.due("all are", x.volume(2), 0);
    }

    private static void sizesAndPlaces() {
        Check.sentence("A volume has a size (1 to 40 places, numbered from 0);");
        ThinVolumes x = Check.withVolumes(1, 40, 40);
        Check.due("the only place", x.write(0, 0, 3), 0);
        Check.due("one behind it", x.write(0, 1, 3), Check.INVALID);
        Check.due("one ahead of it", x.write(0, -1, 3), Check.INVALID);
        Check.due("the last place of 40", x.write(1, 39, 4), 1);
        Check.due("one behind it", x.write(1, 40, 4), Check.INVALID);
        Check.due("the first place of 40", x.write(1, 0, 5), 2);
        Check.due("one ahead of it", x.write(1, -1, 5), Check.INVALID);
        Check.due("one ahead of the first, read", x.read(1, -1, 0), Check.INVALID);
        Check.due("one behind the last, read", x.read(1, 40, 0), Check.INVALID);
        Check.sentence("each place has a piece, or none: then its value is 0.");
        Check.due("the place behind the first", x.read(1, 1, 0), 0);
        Check.due("the place ahead of the last", x.read(1, 38, 0), 0);
        Check.due("the first place of the next volume", x.read(2, 0, 0), 0);
        Check.due("which has none", x.read(2, 0, 1), Check.NOT_FOUND);
        x.trim(1, 39);
        Check.due("a trimmed place", x.read(1, 39, 0), 0);
        Check.due("places that have pieces", x.volumeOf(1, 1), 1);
    }

    private static void firstManners() {
        Check.sentence("A volume has manners (a number, 0 to 100; 50 at first).");
        ThinVolumes x = Check.withVolumes(3, 3);
        Check.due("manners", x.volumeOf(1, 3), 50);
        x.write(1, 0, 1);
        x.trim(1, 0);
        Check.due("manners", x.volumeOf(1, 3), 52);
        x.drop(1);
        x.volume(3);
        Check.due("a new volume with the number of one that had 52", x.volumeOf(1, 3), 50);
    }

    private static void promisesSetAside() {
        Check.sentence("A volume may have a promise: how many pieces are set aside for it.");
        ThinVolumes x = Check.withVolumes(30, 3);
        x.set(1, 0);
        Check.due("none at first", x.volumeOf(0, 4), 0);
        Check.due("promise(0, 29)", x.promise(0, 29), 0);
        Check.due("the one that is left", x.write(1, 0, 1), 0);
        Check.due("the others are set aside", x.write(1, 1, 1), Check.REFUSED);
        for (int place = 0; place < 29; place++) {
            Check.due("promise", x.volumeOf(0, 4), 29 - place);
            Check.due("write(0, " + place + ", 1)", x.write(0, place, 1), place + 1);
        }
        Check.due("promise", x.volumeOf(0, 4), 0);
        Check.due("write(0, 29, 1)", x.write(0, 29, 1), Check.REFUSED);
        ThinVolumes y = Check.withVolumes(30, 3);
        Check.due("promise(0, 30)", y.promise(0, 30), 0);
        Check.due("nothing is left", y.write(1, 0, 1), Check.REFUSED);
    }

    private static void availableIsNeverBelowZero() {
        Check.sentence("What is available is the number of free pieces less all promises together (it is never below 0).");
        ThinVolumes x = Check.withVolumes(40, 40);
        Check.due("available", x.count(2), 30);
        x.promise(0, 20);
        Check.due("available", x.count(2), 10);
        x.promise(1, 10);
        Check.due("available", x.count(2), 0);
        for (int place = 0; place < 20; place++) {
            Check.due("write with a promise", x.write(0, place, 1) >= 0);
            Check.due("available", x.count(2), 0);
        }
        Check.due("all promises", x.count(4), 10);
        Check.due("more than is free", x.promise(1, 11), Check.NOT_POSSIBLE);
        Check.due("available", x.count(2), 0);
        x.trim(0, 0);
        Check.due("available", x.count(2), 1);
        x.promise(1, 11);
        Check.due("available", x.count(2), 0);
        x.promise(1, 0);
        Check.due("available", x.count(2), 11);
        x.promise(1, 11);
        x.drop(1);
        Check.due("available", x.count(2), 11);
        ThinVolumes y = Check.withFullPool(40);
        Check.due("available of a full pool", y.count(2), 0);
    }

    /** The level when a promise leaves so much available. */
    private static void dueLevel(ThinVolumes x, int available, int level) {
        x.promise(0, 30 - available);
        Check.due("what is available", x.count(2), available);
        Check.due("level with " + available, x.count(3), level);
    }

    private static void hardAndSoftLevel() {
        Check.sentence("The level of the pool is 2 (hard) if what is available is at most setting 1, "
            + "otherwise 1 (soft) if it is at most setting 0, otherwise 0.");
        ThinVolumes x = Check.withVolumes(1);
        dueLevel(x, 30, 0);
        dueLevel(x, 11, 0);
        dueLevel(x, 10, 1);
        dueLevel(x, 5, 1);
        dueLevel(x, 4, 2);
        dueLevel(x, 3, 2);
        dueLevel(x, 0, 2);
    }

    private static void levelsThatMeet() {
        ThinVolumes x = Check.withVolumes(1);
        x.set(0, 7);
        x.set(1, 7);
        dueLevel(x, 8, 0);
        dueLevel(x, 7, 2);
        x.set(1, 6);
        dueLevel(x, 8, 0);
        dueLevel(x, 7, 1);
        dueLevel(x, 6, 2);
        x.set(0, 3);
        x.set(1, 12);
        dueLevel(x, 13, 0);
        dueLevel(x, 12, 2);
        dueLevel(x, 4, 2);
        dueLevel(x, 3, 2);
    }

    private static void levelsAtTheirEnds() {
        ThinVolumes x = Check.withVolumes(1);
        x.set(0, 30);
        x.set(1, 0);
        dueLevel(x, 30, 1);
        dueLevel(x, 1, 1);
        dueLevel(x, 0, 2);
        x.set(1, 30);
        dueLevel(x, 30, 2);
        x.set(1, 29);
        dueLevel(x, 30, 1);
        dueLevel(x, 29, 2);
        x.set(0, 29);
        dueLevel(x, 30, 0);
        x.set(0, 0);
        x.set(1, 0);
        dueLevel(x, 1, 0);
        dueLevel(x, 0, 2);
    }

    private static void promisedPieces() {
        Check.sentence("if it has a promise, from this one, which becomes less by 1.");
        ThinVolumes x = Check.withVolumes(30, 30);
        x.promise(0, 28);
        x.promise(1, 2);
        Check.due("nothing available", x.count(2), 0);
        Check.due("level", x.count(3), 2);
        Check.due("1 is not the best", x.volumeOf(1, 7), 1);
        Check.due("it gets one", x.write(1, 0, 1), 0);
        Check.due("its promise", x.volumeOf(1, 4), 1);
        Check.due("the other one's", x.volumeOf(0, 4), 28);
        Check.due("it gets the last one", x.write(1, 1, 1), 1);
        Check.due("its promise", x.volumeOf(1, 4), 0);
        Check.due("it gets no more", x.write(1, 2, 1), Check.REFUSED);
        Check.due("its promise", x.volumeOf(1, 4), 0);
        x.promise(0, 5);
        Check.due("though something is available", x.count(2), 23);
        Check.due("0 gets a promised one", x.write(0, 0, 1), 2);
        Check.due("its promise", x.volumeOf(0, 4), 4);
        Check.due("what is available stays", x.count(2), 23);
    }

    private static void somethingAvailable() {
        Check.sentence("Otherwise, if something is available");
        ThinVolumes x = Check.withVolumes(3, 3);
        x.set(0, 0);
        x.set(1, 0);
        x.promise(1, 29);
        Check.due("one is available", x.count(2), 1);
        Check.due("it gets this one", x.write(0, 0, 1), 0);
        Check.due("none is available", x.count(2), 0);
        Check.due("though pieces are free", x.count(1), 29);
        Check.due("and it is the best of all", x.volumeOf(0, 7), 0);
        Check.due("it gets none", x.write(0, 1, 1), Check.REFUSED);
        Check.due("the other one's promise stays", x.volumeOf(1, 4), 29);
    }

    private static void levelZero() {
        Check.sentence("level 0: each volume;");
        ThinVolumes x = Check.withVolumes(9, 9);
        x.set(1, 30);
        Check.repeat(50, "write(1, 0, 1)", Check.REFUSED, () -> x.write(1, 0, 1));
        Check.due("the worst manners", x.volumeOf(1, 3), 0);
        x.set(1, 0);
        x.set(0, 28);
        x.set(2, 100);
        Check.due("level", x.count(3), 0);
        Check.due("it gets one", x.write(1, 0, 1), 0);
        Check.due("and one more", x.write(1, 1, 1), 1);
        Check.due("level", x.count(3), 1);
        Check.due("but not at level 1", x.write(1, 2, 1), Check.REFUSED);
    }

    private static void levelOne() {
        Check.sentence("level 1: those whose manners are at least setting 2;");
        ThinVolumes x = Check.withVolumes(9, 9);
        x.set(0, 30);
        x.set(1, 0);
        x.set(2, 51);
        Check.due("50 are less than 51", x.write(1, 0, 1), Check.REFUSED);
        x.set(2, 49);
        Check.due("49 are at least 49", x.write(1, 0, 1), 0);
        Check.due("46", x.volumeOf(1, 3), 46);
        x.set(2, 47);
        Check.due("46 are less than 47", x.write(1, 1, 1), Check.REFUSED);
        x.set(2, 44);
        Check.due("45 are more than 44, though it is not the best", x.write(1, 1, 1), 1);
    }

    private static void levelOneAtTheEndsOfManners() {
        ThinVolumes x = Check.withVolumes(9, 9);
        x.set(1, 30);
        Check.repeat(50, "write(1, 0, 1)", Check.REFUSED, () -> x.write(1, 0, 1));
        x.set(0, 30);
        x.set(1, 0);
        x.set(2, 1);
        Check.due("0 are less than 1", x.write(1, 0, 1), Check.REFUSED);
        x.set(2, 0);
        Check.due("0 are at least 0", x.write(1, 0, 1), 0);
        ThinVolumes y = Check.withVolumes(9);
        for (int time = 0; time < 25; time++) {
            y.write(0, 0, 1);
            y.trim(0, 0);
        }
        y.set(0, 30);
        y.set(2, 100);
        Check.due("the best manners", y.volumeOf(0, 3), 100);
        Check.due("100 are at least 100", y.write(0, 0, 1), 0);
        Check.due("97", y.volumeOf(0, 3), 97);
        y.trim(0, 0);
        Check.due("99", y.volumeOf(0, 3), 99);
        Check.due("99 are less than 100", y.write(0, 0, 1), Check.REFUSED);
    }

    private static void levelTwo() {
        Check.sentence("level 2: only the volume with the best manners of all, of several the one with the lowest number.");
        ThinVolumes x = Check.withVolumes(9, 9, 9, 9, 9, 9, 9, 9);
        x.set(1, 30);
        x.set(2, 100);
        Check.due("7 is the last of eight with 50", x.write(7, 0, 1), Check.REFUSED);
        Check.due("1 is not the lowest", x.write(1, 0, 1), Check.REFUSED);
        Check.due("0 is", x.write(0, 0, 1), 0);
        Check.due("0 has 47, the others 50 and 49", x.write(0, 1, 1), Check.REFUSED);
        Check.due("2 is the lowest with 50", x.write(2, 0, 1), 1);
        x.drop(3);
        x.drop(4);
        x.drop(5);
        Check.due("6 is the only one with 50", x.write(6, 0, 1), 2);
        Check.due("of 1 and 7 with 49 it is not 7", x.write(7, 0, 1), Check.REFUSED);
        Check.due("it is 1", x.write(1, 0, 1), 3);
        Check.due("7 is the best with 48, though the last", x.write(7, 0, 1), 4);
        Check.due("level", x.count(3), 2);
    }

    private static void levelTwoAtTheEndsOfManners() {
        ThinVolumes x = Check.withVolumes(30, 30);
        x.set(1, 30);
        x.set(2, 100);
        Check.repeat(50, "write(1, 0, 1)", Check.REFUSED, () -> x.write(1, 0, 1));
        for (int place = 0; place < 17; place++) {
            Check.due("write(0, " + place + ", 1)", x.write(0, place, 1), place);
        }
        Check.due("manners of 0", x.volumeOf(0, 3), 0);
        Check.due("manners of 1", x.volumeOf(1, 3), 0);
        Check.due("1 is not the lowest with 0", x.write(1, 0, 1), Check.REFUSED);
        Check.due("0 is", x.write(0, 17, 1), 17);
        x.drop(0);
        Check.due("alone it is the best with 0, too", x.write(1, 0, 1), 0);
    }

    private static void refused() {
        Check.sentence("If it does not get one, it is refused.");
        ThinVolumes x = Check.withFullPool(40, 1);
        Check.due("refusals of the other one", x.volumeOf(1, 8), 0);
        Check.due("manners of the other one", x.volumeOf(1, 3), 50);
        Check.due("a full pool", x.write(1, 0, 1), Check.REFUSED);
        Check.due("its refusals", x.volumeOf(1, 8), 1);
        Check.due("all refusals", x.count(7), 1);
        Check.due("the other one's", x.volumeOf(0, 8), 0);
        Check.due("a warning", x.warningOf(0, 0), 1);
        Check.due("pieces that it got", x.volumeOf(1, 9), 0);
        Check.due("pieces got", x.count(8), 30);
    }

    private static void lowestFreePiece() {
        Check.sentence("The piece that is got is the free one with the lowest number.");
        ThinVolumes x = Check.withFullPool(40);
        x.trim(0, 29);
        Check.due("29 is the only free one", x.write(0, 39, 2), 29);
        x.trim(0, 28);
        x.trim(0, 0);
        x.trim(0, 7);
        Check.due("0 of 0, 7 and 28", x.write(0, 30, 2), 0);
        Check.due("7 of 7 and 28", x.write(0, 31, 2), 7);
        x.promise(0, 1);
        Check.due("28, with a promise", x.write(0, 32, 2), 28);
        Check.due("none", x.write(0, 33, 2), Check.REFUSED);
    }

    private static void settings() {
        Check.sentence("The settings are (in parentheses: range; first value)");
        int[] wrongWhat = {-1, 3, 4, 20, Integer.MIN_VALUE, Integer.MAX_VALUE};
        for (int what : wrongWhat) {
            Check.dueUnchanged("set(" + what + ", 0)", Check.INVALID, ThinVolumes::new, x -> x.set(what, 0));
            Check.dueUnchanged("set(" + what + ", 30)", Check.INVALID, ThinVolumes::new, x -> x.set(what, 30));
        }
        Check.sentence("0 the soft level (0 to 30; 10), 1 the hard level (0 to 30; 4), "
            + "2 the manners for the soft level (0 to 100; 40).");
        int[] first = {10, 4, 40};
        int[] highest = {30, 30, 100};
        for (int what = 0; what < 3; what++) {
            ThinVolumes x = new ThinVolumes();
            int setting = what;
            Check.due("first value of setting " + what, x.count(20 + what), first[what]);
            Check.due("set, lowest", x.set(what, 0), first[what]);
            Check.due("setting " + what, x.count(20 + what), 0);
            Check.due("set, highest", x.set(what, highest[what]), 0);
            Check.due("setting " + what, x.count(20 + what), highest[what]);
            int[] wrong = {-1, highest[what] + 1, Integer.MIN_VALUE, Integer.MAX_VALUE};
            for (int value : wrong) {
                Check.dueUnchanged("set(" + what + ", " + value + ")", Check.INVALID, ThinVolumes::new,
                    y -> y.set(setting, value));
            }
            for (int other = 0; other < 3; other++) {
                Check.due("setting " + other, x.count(20 + other), other == what ? highest[other] : first[other]);
            }
        }
    }
}
