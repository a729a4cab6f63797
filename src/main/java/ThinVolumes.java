/**
 * Thin volumes over one pool of pieces. What each call does is told by the numbered promises of
 * the document; a call that returns an error changes nothing.
 */
public final class ThinVolumes {
    public static final int INVALID_ARGUMENT = -1000001;
    public static final int NOT_POSSIBLE = -1000002;
    public static final int LIMIT_REACHED = -1000003;
    public static final int NOT_FOUND = -1000004;
    public static final int REFUSED = -1000005;

    private static final int PIECES = 30;
    private static final int VOLUMES = 8;
    private static final int PLACES = 40;
    private static final int SPOTS = VOLUMES * PLACES;
    private static final int HIGHEST_VALUE = 99;
    private static final int NONE = -1;

    private static final int SOFT_LEVEL = 0;
    private static final int HARD_LEVEL = 1;
    private static final int SOFT_MANNERS = 2;
    private static final int SETTINGS = 3;

    private static final int FIRST_MANNERS = 50;
    private static final int BEST_MANNERS = 100;

    private static final int LEVEL_ROSE = 0;
    private static final int WAS_REFUSED = 1;
    private static final int PROMISE_USED_UP = 2;
    private static final int WARNINGS = 10;

    private static final int STATES = 4;
    private static final int SIGNS = 60;
    private static final int NUMBERS = 3;

    private static final int NO_FAULT = 0;
    private static final int BAD_FORM = 1;
    private static final int NO_SUCH_PLACE = 2;
    private static final int OTHERWISE_NOT_POSSIBLE = 3;

    private final Pool pool;
    private final History history;
    private final Text text;
    private final Rehearsal rehearsal;

    public ThinVolumes() {
        pool = new Pool();
        history = new History();
        text = new Text();
        rehearsal = new Rehearsal();
    }

    // ---- volumes

    public int volume(int size) {
        history.prepare(pool);
        return settle(pool.openVolume(size));
    }

    public int share(int volume) {
        history.prepare(pool);
        return settle(pool.cloneVolume(volume));
    }

    public int drop(int volume) {
        history.prepare(pool);
        return settle(pool.dropVolume(volume));
    }

    public int promise(int volume, int pieces) {
        history.prepare(pool);
        return settle(pool.changePromise(volume, pieces));
    }

    public int set(int what, int value) {
        history.prepare(pool);
        return settle(pool.changeSetting(what, value));
    }

    // ---- writing and giving back

    public int write(int volume, int place, int value) {
        history.prepare(pool);
        return settle(pool.writePlace(volume, place, value));
    }

    public int trim(int volume, int place) {
        history.prepare(pool);
        return settle(pool.trimPlace(volume, place));
    }

    public int sweep(int volume) {
        history.prepare(pool);
        return settle(pool.sweepVolume(volume));
    }

    public int merge() {
        history.prepare(pool);
        return settle(pool.mergePieces());
    }

    public int read(int volume, int place, int what) {
        if (!pool.hasPlace(volume, place) || what < 0 || what > 1) {
            return INVALID_ARGUMENT;
        }
        int piece = pool.pieceAt(volume, place);
        if (what == 0) {
            return pool.valueOf(piece);
        }
        return piece == NONE ? NOT_FOUND : piece;
    }

    // ---- what there is

    public int volumeOf(int volume, int what) {
        if (!pool.lives(volume)) {
            return INVALID_ARGUMENT;
        }
        switch (what) {
            case 0: return pool.sizes[volume];
            case 1: return pool.placesWithPieces(volume);
            case 2: return pool.piecesOwnedOnlyBy(1 << volume);
            case 3: return pool.manners[volume];
            case 4: return pool.promises[volume];
            case 5: return pool.parents[volume] == NONE ? NOT_FOUND : pool.parents[volume];
            case 6: return pool.clonesOf(volume);
            case 7: return pool.rankWith(volume, pool.manners[volume]);
            case 8: return pool.refusalsOf[volume];
            case 9: return pool.piecesGotBy[volume];
            default: return INVALID_ARGUMENT;
        }
    }

    public int pieceOf(int piece, int what) {
        if (!pool.isPiece(piece) || what < 0 || what > 2) {
            return INVALID_ARGUMENT;
        }
        if (pool.owners[piece] == 0) {
            return NOT_FOUND;
        }
        switch (what) {
            case 0: return pool.values[piece];
            case 1: return pool.owners[piece];
            default: return pool.volumesThatOwn(piece);
        }
    }

    public int warningOf(int index, int what) {
        if (index < 0 || what < 0 || what > 2) {
            return INVALID_ARGUMENT;
        }
        return pool.warnings.tell(index, what);
    }

    // ---- what would be

    public int couldGet(int volume) {
        return pool.lives(volume) ? pool.piecesInReach(volume) : INVALID_ARGUMENT;
    }

    public int couldFree(int volume) {
        Pool trial = rehearsal.trial;
        trial.copyFrom(pool);
        if (volume == -1) {
            return trial.mergePieces();
        }
        if (volume != -2) {
            return trial.sweepVolume(volume);
        }
        int freed = 0;
        for (int swept = 0; swept < VOLUMES; swept++) {
            if (trial.lives(swept)) {
                freed += trial.sweepVolume(swept);
            }
        }
        return freed + trial.mergePieces();
    }

    public int family(int volume, int what) {
        if (!pool.lives(volume)) {
            return INVALID_ARGUMENT;
        }
        switch (what) {
            case 0: return pool.familyOf(volume);
            case 1: return pool.piecesOwnedOnlyBy(pool.familyOf(volume));
            case 2: return pool.longestLineFrom(volume);
            default: return INVALID_ARGUMENT;
        }
    }

    public int ranked(int rank) {
        return rank < 0 ? INVALID_ARGUMENT : pool.volumeWithRank(rank);
    }

    public int over(int part) {
        if (part < 0 || part > 1) {
            return INVALID_ARGUMENT;
        }
        int sizes = pool.allSizes();
        int whole = part == 0 ? sizes : PIECES;
        for (int divisor = PIECES; divisor > 1; divisor--) {
            if (sizes % divisor == 0 && PIECES % divisor == 0) {
                return whole / divisor;
            }
        }
        return whole;
    }

    public int count(int what) {
        switch (what) {
            case 0: return pool.volumesThatLive();
            case 1: return pool.freePieces();
            case 2: return pool.available();
            case 3: return pool.level();
            case 4: return pool.allPromises();
            case 5: return pool.allOwners();
            case 6: return pool.sharedPieces();
            case 7: return pool.refusals;
            case 8: return pool.piecesGot;
            case 9: return pool.piecesFreed;
            case 10: return pool.warnings.kept;
            case 11: return history.kept;
            case 12: return text.length;
            case 20: return pool.settings[SOFT_LEVEL];
            case 21: return pool.settings[HARD_LEVEL];
            case 22: return pool.settings[SOFT_MANNERS];
            default: return INVALID_ARGUMENT;
        }
    }

    public int undo() {
        return history.restore(pool) ? history.kept : NOT_POSSIBLE;
    }

    // ---- texts

    public int type(int character) {
        if (character < 32 || character > 126) {
            return INVALID_ARGUMENT;
        }
        return text.append(character) ? text.length : LIMIT_REACHED;
    }

    public int clearText() {
        int before = text.length;
        text.length = 0;
        return before;
    }

    public int fault(int what) {
        if (what < 0 || what > 1) {
            return INVALID_ARGUMENT;
        }
        rehearsal.perform(text, pool);
        if (rehearsal.reason == NO_FAULT) {
            return NOT_FOUND;
        }
        return what == 0 ? rehearsal.position : rehearsal.reason;
    }

    public int play() {
        rehearsal.perform(text, pool);
        if (rehearsal.reason != NO_FAULT) {
            return NOT_POSSIBLE;
        }
        int refused = rehearsal.trial.refusals - pool.refusals;
        history.prepare(pool);
        // The rehearsal has done every order already, so what it came to is what is due.
        pool.copyFrom(rehearsal.trial);
        return settle(refused);
    }

    /** Only a call that returned no error has changed something that undo() can take back. */
    private int settle(int answer) {
        if (!isError(answer)) {
            history.keepPrepared();
        }
        return answer;
    }

    private static boolean isError(int answer) {
        return answer == INVALID_ARGUMENT || answer == NOT_POSSIBLE
            || answer == LIMIT_REACHED || answer == NOT_FOUND;
    }

    /** All that a change can change: everything but the text and the history. */
    private static final class Pool {
        /** 0 for a number that no volume has. */
        final int[] sizes = new int[VOLUMES];
        final int[] manners = new int[VOLUMES];
        final int[] promises = new int[VOLUMES];
        final int[] parents = new int[VOLUMES];
        final int[] refusalsOf = new int[VOLUMES];
        final int[] piecesGotBy = new int[VOLUMES];
        /** The piece of each place of each volume; NONE also behind a volume's size. */
        final int[] spots = new int[SPOTS];
        final int[] values = new int[PIECES];
        /** How many places have the piece; 0 for a free one. */
        final int[] owners = new int[PIECES];
        final int[] settings = new int[SETTINGS];
        final Warnings warnings = new Warnings();
        int refusals;
        int piecesGot;
        int piecesFreed;

        Pool() {
            settings[SOFT_LEVEL] = 10;
            settings[HARD_LEVEL] = 4;
            settings[SOFT_MANNERS] = 40;
            for (int volume = 0; volume < VOLUMES; volume++) {
                parents[volume] = NONE;
            }
            for (int spot = 0; spot < SPOTS; spot++) {
                spots[spot] = NONE;
            }
        }

        void copyFrom(Pool other) {
            System.arraycopy(other.sizes, 0, sizes, 0, VOLUMES);
            System.arraycopy(other.manners, 0, manners, 0, VOLUMES);
            System.arraycopy(other.promises, 0, promises, 0, VOLUMES);
            System.arraycopy(other.parents, 0, parents, 0, VOLUMES);
            System.arraycopy(other.refusalsOf, 0, refusalsOf, 0, VOLUMES);
            System.arraycopy(other.piecesGotBy, 0, piecesGotBy, 0, VOLUMES);
            System.arraycopy(other.spots, 0, spots, 0, SPOTS);
            System.arraycopy(other.values, 0, values, 0, PIECES);
            System.arraycopy(other.owners, 0, owners, 0, PIECES);
            System.arraycopy(other.settings, 0, settings, 0, SETTINGS);
            warnings.copyFrom(other.warnings);
            refusals = other.refusals;
            piecesGot = other.piecesGot;
            piecesFreed = other.piecesFreed;
        }

        // What there is.

        boolean lives(int volume) {
            return volume >= 0 && volume < VOLUMES && sizes[volume] > 0;
        }

        boolean hasPlace(int volume, int place) {
            return lives(volume) && place >= 0 && place < sizes[volume] && place < PLACES;
        }

        boolean isPiece(int piece) {
            return piece >= 0 && piece < PIECES;
        }

        int pieceAt(int volume, int place) {
            return hasPlace(volume, place) ? spots[volume * PLACES + place] : NONE;
        }

        int valueOf(int piece) {
            return isPiece(piece) ? values[piece] : 0;
        }

        int volumesThatLive() {
            int living = 0;
            for (int volume = 0; volume < VOLUMES; volume++) {
                if (lives(volume)) {
                    living++;
                }
            }
            return living;
        }

        int allSizes() {
            int sum = 0;
            for (int volume = 0; volume < VOLUMES; volume++) {
                sum += sizes[volume];
            }
            return sum;
        }

        int allPromises() {
            int sum = 0;
            for (int volume = 0; volume < VOLUMES; volume++) {
                sum += promises[volume];
            }
            return sum;
        }

        int allOwners() {
            int sum = 0;
            for (int piece = 0; piece < PIECES; piece++) {
                sum += owners[piece];
            }
            return sum;
        }

        int freePieces() {
            int free = 0;
            for (int piece = 0; piece < PIECES; piece++) {
                if (owners[piece] == 0) {
                    free++;
                }
            }
            return free;
        }

        int sharedPieces() {
            int shared = 0;
            for (int piece = 0; piece < PIECES; piece++) {
                if (owners[piece] > 1) {
                    shared++;
                }
            }
            return shared;
        }

        int placesWithPieces(int volume) {
            int places = 0;
            for (int place = 0; place < PLACES; place++) {
                if (pieceAt(volume, place) != NONE) {
                    places++;
                }
            }
            return places;
        }

        int volumesThatOwn(int piece) {
            int set = 0;
            for (int volume = 0; volume < VOLUMES; volume++) {
                for (int place = 0; place < PLACES; place++) {
                    if (pieceAt(volume, place) == piece) {
                        set |= 1 << volume;
                    }
                }
            }
            return set;
        }

        int piecesOwnedOnlyBy(int set) {
            int pieces = 0;
            for (int piece = 0; piece < PIECES; piece++) {
                if (owners[piece] > 0 && (volumesThatOwn(piece) & ~set) == 0) {
                    pieces++;
                }
            }
            return pieces;
        }

        // Clones.

        int clonesOf(int volume) {
            int set = 0;
            for (int clone = 0; clone < VOLUMES; clone++) {
                if (lives(clone) && parents[clone] == volume) {
                    set |= 1 << clone;
                }
            }
            return set;
        }

        /** How many steps from clone to parent lead from a volume to another one; NONE if none do. */
        int stepsUp(int from, int to) {
            int volume = from;
            for (int steps = 0; steps < VOLUMES; steps++) {
                if (!lives(volume)) {
                    return NONE;
                }
                if (volume == to) {
                    return steps;
                }
                volume = parents[volume];
            }
            return NONE;
        }

        int familyOf(int volume) {
            int set = 0;
            for (int member = 0; member < VOLUMES; member++) {
                if (stepsUp(member, volume) != NONE) {
                    set |= 1 << member;
                }
            }
            return set;
        }

        int longestLineFrom(int volume) {
            int longest = 0;
            for (int member = 0; member < VOLUMES; member++) {
                longest = Math.max(longest, stepsUp(member, volume));
            }
            return longest;
        }

        // Levels and manners.

        int available() {
            return freePieces() - allPromises();
        }

        int level() {
            return levelWith(available());
        }

        int levelWith(int available) {
            if (available <= settings[HARD_LEVEL]) {
                return 2;
            }
            return available <= settings[SOFT_LEVEL] ? 1 : 0;
        }

        /** The rank that the volume would have with these manners. */
        int rankWith(int volume, int itsManners) {
            int rank = 0;
            for (int other = 0; other < VOLUMES; other++) {
                boolean ahead = manners[other] > itsManners
                    || (manners[other] == itsManners && other < volume);
                if (other != volume && lives(other) && ahead) {
                    rank++;
                }
            }
            return rank;
        }

        int volumeWithRank(int rank) {
            for (int volume = 0; volume < VOLUMES; volume++) {
                if (lives(volume) && rankWith(volume, manners[volume]) == rank) {
                    return volume;
                }
            }
            return NOT_FOUND;
        }

        boolean wouldGetUnpromised(int volume, int itsManners, int available) {
            if (available <= 0) {
                return false;
            }
            int level = levelWith(available);
            if (level == 2) {
                return rankWith(volume, itsManners) == 0;
            }
            return level == 0 || itsManners >= settings[SOFT_MANNERS];
        }

        int mannersBehindUnpromised(int itsManners, int level) {
            return level == 0 ? itsManners : Math.max(itsManners - 3, 0);
        }

        int piecesInReach(int volume) {
            if (!lives(volume)) {
                return 0;
            }
            // Promised pieces leave what is available, and so the level, as they are.
            int got = promises[volume];
            int itsManners = manners[volume];
            for (int available = available(); available > 0; available--) {
                if (!wouldGetUnpromised(volume, itsManners, available)) {
                    return got;
                }
                itsManners = mannersBehindUnpromised(itsManners, levelWith(available));
                got++;
            }
            return got;
        }

        void warnIfLevelRose(int levelBefore) {
            int available = available();
            if (levelWith(available) > levelBefore) {
                warnings.add(LEVEL_ROSE, NONE, available);
            }
        }

        // Volumes. Only changePromise, changeSetting and writePlace can make the level greater:
        // all other changes leave what is available as it is, or make it more.

        int openVolume(int size) {
            if (size < 1 || size > PLACES) {
                return INVALID_ARGUMENT;
            }
            for (int volume = 0; volume < VOLUMES; volume++) {
                if (!lives(volume)) {
                    sizes[volume] = size;
                    manners[volume] = FIRST_MANNERS;
                    promises[volume] = 0;
                    parents[volume] = NONE;
                    refusalsOf[volume] = 0;
                    piecesGotBy[volume] = 0;
                    return volume;
                }
            }
            return LIMIT_REACHED;
        }

        int cloneVolume(int volume) {
            if (!lives(volume)) {
                return INVALID_ARGUMENT;
            }
            int clone = openVolume(sizes[volume]);
            if (!lives(clone)) {
                return clone;
            }
            parents[clone] = volume;
            for (int place = 0; place < PLACES; place++) {
                int piece = pieceAt(volume, place);
                if (isPiece(piece)) {
                    spots[clone * PLACES + place] = piece;
                    owners[piece]++;
                }
            }
            return clone;
        }

        int dropVolume(int volume) {
            if (!lives(volume)) {
                return INVALID_ARGUMENT;
            }
            int freed = 0;
            for (int place = 0; place < PLACES; place++) {
                freed += loosen(volume, place);
            }
            for (int clone = 0; clone < VOLUMES; clone++) {
                if (parents[clone] == volume) {
                    parents[clone] = parents[volume];
                }
            }
            parents[volume] = NONE;
            promises[volume] = 0;
            sizes[volume] = 0;
            return freed;
        }

        int changePromise(int volume, int pieces) {
            if (!lives(volume) || pieces < 0 || pieces > PIECES) {
                return INVALID_ARGUMENT;
            }
            int before = promises[volume];
            if (allPromises() - before + pieces > freePieces()) {
                return NOT_POSSIBLE;
            }
            int levelBefore = level();
            promises[volume] = pieces;
            warnIfLevelRose(levelBefore);
            return before;
        }

        int changeSetting(int what, int value) {
            if (what < 0 || what >= SETTINGS || value < 0 || value > highestSetting(what)) {
                return INVALID_ARGUMENT;
            }
            int before = settings[what];
            int levelBefore = level();
            settings[what] = value;
            warnIfLevelRose(levelBefore);
            return before;
        }

        private int highestSetting(int what) {
            return what == SOFT_MANNERS ? BEST_MANNERS : PIECES;
        }

        // Writing and giving back.

        int writePlace(int volume, int place, int value) {
            if (!hasPlace(volume, place) || value < 0 || value > HIGHEST_VALUE) {
                return INVALID_ARGUMENT;
            }
            int old = pieceAt(volume, place);
            if (isPiece(old) && owners[old] == 1) {
                values[old] = value;
                return old;
            }
            int piece = lowestFreePiece();
            boolean promised = promises[volume] > 0;
            if (!isPiece(piece)
                || !(promised || wouldGetUnpromised(volume, manners[volume], available()))) {
                refuse(volume);
                return REFUSED;
            }
            int levelBefore = level();
            loosen(volume, place);
            spots[volume * PLACES + place] = piece;
            owners[piece] = 1;
            values[piece] = value;
            bookPiece(volume, promised, levelBefore);
            return piece;
        }

        private int lowestFreePiece() {
            for (int piece = 0; piece < PIECES; piece++) {
                if (owners[piece] == 0) {
                    return piece;
                }
            }
            return NONE;
        }

        private void refuse(int volume) {
            manners[volume] = Math.max(manners[volume] - 1, 0);
            refusalsOf[volume]++;
            refusals++;
            warnings.add(WAS_REFUSED, volume, available());
        }

        private void bookPiece(int volume, boolean promised, int levelBefore) {
            piecesGotBy[volume]++;
            piecesGot++;
            if (!promised) {
                manners[volume] = mannersBehindUnpromised(manners[volume], levelBefore);
                warnIfLevelRose(levelBefore);
                return;
            }
            promises[volume]--;
            if (promises[volume] == 0) {
                warnings.add(PROMISE_USED_UP, volume, available());
            }
        }

        int trimPlace(int volume, int place) {
            if (!hasPlace(volume, place)) {
                return INVALID_ARGUMENT;
            }
            if (pieceAt(volume, place) == NONE) {
                return NOT_POSSIBLE;
            }
            int freed = loosen(volume, place);
            thank(volume, freed);
            return freed;
        }

        int sweepVolume(int volume) {
            if (!lives(volume)) {
                return INVALID_ARGUMENT;
            }
            int freed = 0;
            for (int place = 0; place < PLACES; place++) {
                int piece = pieceAt(volume, place);
                if (isPiece(piece) && values[piece] == 0) {
                    freed += loosen(volume, place);
                }
            }
            thank(volume, freed);
            return freed;
        }

        private void thank(int volume, int freed) {
            manners[volume] = Math.min(manners[volume] + 2 * freed, BEST_MANNERS);
        }

        /** Takes the piece, if there is one, from a place; returns how many pieces become free. */
        private int loosen(int volume, int place) {
            int piece = pieceAt(volume, place);
            if (!isPiece(piece)) {
                return 0;
            }
            spots[volume * PLACES + place] = NONE;
            owners[piece]--;
            if (owners[piece] > 0) {
                return 0;
            }
            piecesFreed++;
            return 1;
        }

        int mergePieces() {
            int freed = 0;
            for (int piece = 0; piece < PIECES; piece++) {
                for (int later = piece + 1; later < PIECES; later++) {
                    if (owners[piece] > 0 && owners[later] > 0 && values[piece] == values[later]) {
                        moveOwners(later, piece);
                        freed++;
                    }
                }
            }
            piecesFreed += freed;
            return freed;
        }

        private void moveOwners(int from, int to) {
            for (int spot = 0; spot < SPOTS; spot++) {
                if (spots[spot] == from) {
                    spots[spot] = to;
                }
            }
            owners[to] += owners[from];
            owners[from] = 0;
        }
    }

    /** The latest warnings, the latest one first. */
    private static final class Warnings {
        final int[] kinds = new int[WARNINGS];
        final int[] volumes = new int[WARNINGS];
        final int[] available = new int[WARNINGS];
        int kept;

        void copyFrom(Warnings other) {
            System.arraycopy(other.kinds, 0, kinds, 0, WARNINGS);
            System.arraycopy(other.volumes, 0, volumes, 0, WARNINGS);
            System.arraycopy(other.available, 0, available, 0, WARNINGS);
            kept = other.kept;
        }

        void add(int kind, int volume, int availableBehind) {
            System.arraycopy(kinds, 0, kinds, 1, WARNINGS - 1);
            System.arraycopy(volumes, 0, volumes, 1, WARNINGS - 1);
            System.arraycopy(available, 0, available, 1, WARNINGS - 1);
            kinds[0] = kind;
            volumes[0] = volume;
            available[0] = availableBehind;
            kept = Math.min(kept + 1, WARNINGS);
        }

        int tell(int index, int what) {
            if (index < 0 || index >= kept || index >= WARNINGS) {
                return NOT_FOUND;
            }
            switch (what) {
                case 0: return kinds[index];
                case 1: return volumes[index];
                default: return available[index];
            }
        }
    }

    /** The states that undo() goes back to, the oldest one first. */
    private static final class History {
        /** One more than is kept: a state is noted before it is known whether the call is a change. */
        final Pool[] states = new Pool[STATES + 1];
        int kept;

        History() {
            for (int state = 0; state <= STATES; state++) {
                states[state] = new Pool();
            }
        }

        void prepare(Pool pool) {
            copyInto(kept, pool);
        }

        void keepPrepared() {
            kept++;
            if (kept > STATES) {
                dropOldest();
            }
        }

        private void dropOldest() {
            for (int state = 1; state <= STATES; state++) {
                copyInto(state - 1, states[state]);
            }
            kept = STATES;
        }

        private void copyInto(int state, Pool pool) {
            if (state >= 0 && state <= STATES && states[state] != null && pool != null) {
                states[state].copyFrom(pool);
            }
        }

        /** Puts the latest state into the pool; false if there is none. */
        boolean restore(Pool pool) {
            if (kept < 1 || kept > STATES || states[kept - 1] == null) {
                return false;
            }
            kept--;
            pool.copyFrom(states[kept]);
            return true;
        }
    }

    /** The typed characters, and the order that was read from them last. */
    private static final class Text {
        final int[] signs = new int[SIGNS];
        int length;
        int kind;
        final int[] numbers = new int[NUMBERS];
        /** The position of the first character behind what was read. */
        int next;

        boolean append(int sign) {
            if (length < 0 || length >= SIGNS) {
                return false;
            }
            signs[length] = sign;
            length++;
            return true;
        }

        /** Reads the order that begins at a position; false if it is not of the form. */
        boolean readOrder(int position) {
            next = position;
            kind = signHere();
            next++;
            int due = numbersDue(kind);
            if (due == NONE) {
                return false;
            }
            for (int number = 0; number < due && number < NUMBERS; number++) {
                if (number > 0 && !passes(',')) {
                    return false;
                }
                numbers[number] = readNumber();
                if (numbers[number] == NONE) {
                    return false;
                }
            }
            return passes(';');
        }

        private int numbersDue(int orderKind) {
            switch (orderKind) {
                case 'w': return 3;
                case 't': return 2;
                case 's':
                case 'c':
                case 'd': return 1;
                case 'm': return 0;
                default: return NONE;
            }
        }

        private int signHere() {
            return next >= 0 && next < length && next < SIGNS ? signs[next] : NONE;
        }

        private boolean passes(int sign) {
            if (signHere() != sign) {
                return false;
            }
            next++;
            return true;
        }

        /** Reads one digit or two; NONE if there is none. */
        private int readNumber() {
            int number = readDigit();
            if (number == NONE) {
                return NONE;
            }
            int second = readDigit();
            return second == NONE ? number : number * 10 + second;
        }

        private int readDigit() {
            int sign = signHere();
            if (sign < '0' || sign > '9') {
                return NONE;
            }
            next++;
            return sign - '0';
        }
    }

    /** Does the orders of a text on a pool of its own, to see what they would come to. */
    private static final class Rehearsal {
        final Pool trial = new Pool();
        int position;
        int reason;

        void perform(Text text, Pool pool) {
            trial.copyFrom(pool);
            position = 0;
            reason = NO_FAULT;
            for (int order = 0; order < SIGNS && position < text.length; order++) {
                reason = text.readOrder(position) ? reasonOf(obey(text)) : BAD_FORM;
                if (reason != NO_FAULT) {
                    return;
                }
                position = text.next;
            }
        }

        private int obey(Text order) {
            int volume = order.numbers[0];
            switch (order.kind) {
                case 'w': return trial.writePlace(volume, order.numbers[1], order.numbers[2]);
                case 't': return trial.trimPlace(volume, order.numbers[1]);
                case 's': return trial.sweepVolume(volume);
                case 'c': return trial.cloneVolume(volume);
                case 'd': return trial.dropVolume(volume);
                default: return trial.mergePieces();
            }
        }

        private int reasonOf(int answer) {
            if (answer == INVALID_ARGUMENT) {
                return NO_SUCH_PLACE;
            }
            return isError(answer) ? OTHERWISE_NOT_POSSIBLE : NO_FAULT;
        }
    }
}
