import java.util.ArrayList;
import java.util.List;
import java.util.Random;
import java.util.TreeMap;
import java.util.TreeSet;

/**
 * Compares long runs of calls, wild arguments among them, with a second reading of the document
 * that shares no code with the program and looks everything up anew in the places of its volumes.
 */
public final class ModelTest {
    private static final int RUNS = 500;
    private static final int CALLS = 512;
    private static final String[] NAMES = {"volume", "share", "drop", "promise", "set", "write", "trim", "sweep",
        "merge", "read", "volumeOf", "pieceOf", "warningOf", "couldGet", "couldFree", "family", "ranked", "over",
        "count", "undo", "type", "clearText", "fault", "play"};

    public static void main(String[] args) {
        TreeMap<String, Integer> seen = new TreeMap<>();
        for (int run = 0; run < RUNS; run++) {
            if (!sameAnswers(run, seen)) {
                System.out.println("ModelTest: run " + run + " differs");
                System.exit(1);
            }
        }
        boolean all = true;
        for (String kind : new String[] {"write refused", "promise NOT_POSSIBLE", "fault reason 1", "fault reason 2",
            "fault reason 3", "play refused some", "play done", "share LIMIT", "type LIMIT", "undo done",
            "merge freed", "sweep freed", "couldGet many", "level 2 write", "level 1 write", "promised write"}) {
            if (seen.getOrDefault(kind, 0) < 50) {
                System.out.println("ModelTest: too seldom: " + kind + " " + seen.get(kind));
                all = false;
            }
        }
        if (!all) {
            System.exit(1);
        }
        System.out.println("ModelTest: all answers are as due");
    }

    private static boolean sameAnswers(int run, TreeMap<String, Integer> seen) {
        Random random = new Random(run);
        ThinVolumes x = new ThinVolumes();
        Model m = new Model();
        StringBuilder told = new StringBuilder();
        String waiting = "";
        int waitingAt = 0;
        for (int call = 0; call < CALLS; call++) {
            int which;
            int[] a = new int[3];
            if (waitingAt < waiting.length()) {
                which = 20;
                a[0] = waiting.charAt(waitingAt++);
            } else {
                which = choose(random, run);
                fillArguments(random, which, a, m);
                if (which == 20) {
                    waiting = orders(random, m);
                    waitingAt = 0;
                    which = 21;
                }
            }
            int level = m.now.level();
            boolean promised = which == 5 && m.now.lives(a[0]) && m.now.volumes[a[0]].promise > 0;
            int gotBefore = m.now.got;
            int got = answer(x, which, a);
            int due = m.answer(which, a);
            note(seen, which, a, due);
            if (which == 5 && m.now.got > gotBefore) {
                seen.merge(promised ? "promised write" : "level " + level + " write", 1, Integer::sum);
            }
            told.append(NAMES[which]).append('(').append(a[0]).append(", ").append(a[1]).append(", ").append(a[2])
                .append(") due ").append(due).append('\n');
            if (got != due) {
                System.out.print(told);
                System.out.println("the last one answered " + got);
                return false;
            }
            if (call % 32 == 31 && !sameView(x, m, told)) {
                return false;
            }
        }
        return true;
    }

    private static void note(TreeMap<String, Integer> seen, int which, int[] a, int due) {
        String kind = null;
        if (which == 5 && due == Model.REFUSED) kind = "write refused";
        if (which == 3 && due == Model.NOT_POSSIBLE) kind = "promise NOT_POSSIBLE";
        if (which == 22 && a[0] == 1 && due > 0) kind = "fault reason " + due;
        if (which == 23 && due > 0) kind = "play refused some";
        if (which == 23 && due == 0) kind = "play done";
        if (which == 1 && due == Model.LIMIT_REACHED) kind = "share LIMIT";
        if (which == 20 && due == Model.LIMIT_REACHED) kind = "type LIMIT";
        if (which == 19 && due >= 0) kind = "undo done";
        if (which == 8 && due > 0) kind = "merge freed";
        if (which == 7 && due > 0) kind = "sweep freed";
        if (which == 13 && due > 3) kind = "couldGet many";
        if (kind != null) {
            seen.merge(kind, 1, Integer::sum);
        }
    }

    /** Asks both for everything that can be asked without a change. */
    private static boolean sameView(ThinVolumes x, Model m, StringBuilder told) {
        for (int which : new int[] {10, 11, 12, 13, 14, 15, 16, 17, 18, 22}) {
            for (int first = -2; first <= 30; first++) {
                for (int second = 0; second < (which == 10 ? 10 : 3); second++) {
                    int[] a = {first, second, 0};
                    if (answer(x, which, a) != m.answer(which, a)) {
                        System.out.print(told);
                        System.out.println(NAMES[which] + "(" + first + ", " + second + ") answered "
                            + answer(x, which, a) + ", due is " + m.answer(which, a));
                        return false;
                    }
                }
            }
        }
        for (int volume = 0; volume < 8; volume++) {
            for (int place = 0; place < 41; place++) {
                for (int what = 0; what < 2; what++) {
                    int[] a = {volume, place, what};
                    if (answer(x, 9, a) != m.answer(9, a)) {
                        System.out.print(told);
                        System.out.println("read differs at " + volume + ", " + place + ", " + what);
                        return false;
                    }
                }
            }
        }
        return true;
    }

    private static int choose(Random random, int run) {
        int roll = random.nextInt(100);
        if (roll < 38) return 5;
        if (roll < 44) return 6;
        if (roll < 47) return 7;
        if (roll < 49) return 8;
        if (roll < 54) return random.nextInt(2);
        if (roll < 56) return 2;
        if (roll < 60) return 3;
        if (roll < 62) return run % 3 == 0 ? 3 : 4;
        if (roll < 65) return 19;
        if (roll < 68) return 20;
        if (roll < 71) return 22;
        if (roll < 74) return 23;
        if (roll < 80) return 13 + random.nextInt(2);
        return random.nextInt(24);
    }

    private static int wild(Random random) {
        switch (random.nextInt(6)) {
            case 0: return Integer.MIN_VALUE;
            case 1: return Integer.MAX_VALUE;
            case 2: return -1 - random.nextInt(4);
            case 3: return random.nextInt(200);
            case 4: return random.nextInt();
            default: return 8;
        }
    }

    private static void fillArguments(Random random, int which, int[] a, Model m) {
        int volume = random.nextInt(random.nextBoolean() ? 3 : 8);
        a[0] = volume;
        switch (which) {
            case 20: return;
            case 0: a[0] = random.nextBoolean() ? 1 + random.nextInt(40) : 12; break;
            case 3: a[1] = random.nextInt(random.nextInt(4) == 0 ? 32 : 8); break;
            case 4: a[0] = random.nextInt(3); a[1] = random.nextInt(a[0] == 2 ? 102 : 32); break;
            case 5: a[1] = random.nextInt(random.nextInt(3) == 0 ? 40 : 10); a[2] = random.nextInt(4); break;
            case 6: a[1] = random.nextInt(random.nextInt(3) == 0 ? 40 : 10); break;
            case 9: a[1] = random.nextInt(41); a[2] = random.nextInt(3); break;
            case 10: a[1] = random.nextInt(11); break;
            case 11: a[0] = random.nextInt(31); a[1] = random.nextInt(4); break;
            case 12: a[0] = random.nextInt(12); a[1] = random.nextInt(4); break;
            case 14: a[0] = random.nextInt(11) - 3; break;
            case 15: a[1] = random.nextInt(4); break;
            case 18: a[0] = random.nextInt(24); break;
            case 22: a[0] = random.nextInt(2); break;
            default: break;
        }
        if (random.nextInt(25) == 0) {
            a[random.nextInt(3)] = wild(random);
        }
    }

    private static String number(Random random, int below) {
        int n = random.nextInt(below);
        return n < 10 && random.nextInt(6) == 0 ? "0" + n : String.valueOf(n);
    }

    private static String orders(Random random, Model m) {
        StringBuilder text = new StringBuilder();
        int count = random.nextInt(random.nextInt(4) == 0 ? 18 : 9);
        int volumes = random.nextBoolean() ? 2 : 8;
        for (int i = 0; i < count; i++) {
            switch (random.nextInt(9)) {
                case 0:
                case 1:
                case 2:
                case 3: text.append('w').append(number(random, volumes)).append(',').append(number(random, 12))
                    .append(',').append(number(random, 5)); break;
                case 4: text.append('t').append(number(random, volumes)).append(',').append(number(random, 6)); break;
                case 5: text.append('s').append(number(random, volumes)); break;
                case 6: text.append('c').append(number(random, volumes)); break;
                case 7: text.append('d').append(number(random, volumes)); break;
                default: text.append('m'); break;
            }
            text.append(';');
        }
        if (random.nextInt(4) == 0 && text.length() > 0) {
            String signs = "wtscdm,;0129 x/:";
            text.setCharAt(random.nextInt(text.length()), signs.charAt(random.nextInt(signs.length())));
        }
        if (random.nextInt(8) == 0 && text.length() > 0) {
            text.deleteCharAt(text.length() - 1);
        }
        return text.toString();
    }

    private static int answer(ThinVolumes x, int which, int[] a) {
        switch (which) {
            case 0: return x.volume(a[0]);
            case 1: return x.share(a[0]);
            case 2: return x.drop(a[0]);
            case 3: return x.promise(a[0], a[1]);
            case 4: return x.set(a[0], a[1]);
            case 5: return x.write(a[0], a[1], a[2]);
            case 6: return x.trim(a[0], a[1]);
            case 7: return x.sweep(a[0]);
            case 8: return x.merge();
            case 9: return x.read(a[0], a[1], a[2]);
            case 10: return x.volumeOf(a[0], a[1]);
            case 11: return x.pieceOf(a[0], a[1]);
            case 12: return x.warningOf(a[0], a[1]);
            case 13: return x.couldGet(a[0]);
            case 14: return x.couldFree(a[0]);
            case 15: return x.family(a[0], a[1]);
            case 16: return x.ranked(a[0]);
            case 17: return x.over(a[0]);
            case 18: return x.count(a[0]);
            case 19: return x.undo();
            case 20: return x.type(a[0]);
            case 21: return x.clearText();
            case 22: return x.fault(a[0]);
            default: return x.play();
        }
    }

    private static final class Piece {
        final int number;
        int value;

        Piece(int number) {
            this.number = number;
        }
    }

    private static final class Volume {
        Piece[] places;
        int manners = 50;
        int promise;
        int parent = -1;
        int refused;
        int got;
    }

    /** One state; a piece is free when no place of any volume refers to it. */
    private static final class State {
        Piece[] pieces = new Piece[30];
        Volume[] volumes = new Volume[8];
        int[] settings = {10, 4, 40};
        List<int[]> warnings = new ArrayList<>();
        int refusals;
        int got;
        int freed;

        State() {
            for (int p = 0; p < 30; p++) {
                pieces[p] = new Piece(p);
            }
        }

        State copy() {
            State c = new State();
            for (int p = 0; p < 30; p++) {
                c.pieces[p].value = pieces[p].value;
            }
            for (int v = 0; v < 8; v++) {
                Volume old = volumes[v];
                if (old != null) {
                    Volume n = new Volume();
                    n.places = new Piece[old.places.length];
                    for (int i = 0; i < n.places.length; i++) {
                        n.places[i] = old.places[i] == null ? null : c.pieces[old.places[i].number];
                    }
                    n.manners = old.manners;
                    n.promise = old.promise;
                    n.parent = old.parent;
                    n.refused = old.refused;
                    n.got = old.got;
                    c.volumes[v] = n;
                }
            }
            c.settings = settings.clone();
            c.warnings = new ArrayList<>(warnings);
            c.refusals = refusals;
            c.got = got;
            c.freed = freed;
            return c;
        }

        boolean lives(int v) {
            return v >= 0 && v < 8 && volumes[v] != null;
        }

        boolean hasPlace(int v, int place) {
            return lives(v) && place >= 0 && place < volumes[v].places.length;
        }

        int owners(Piece p, int set) {
            int n = 0;
            for (int v = 0; v < 8; v++) {
                if (volumes[v] != null && (set >> v & 1) == 1) {
                    for (Piece q : volumes[v].places) {
                        if (q == p) {
                            n++;
                        }
                    }
                }
            }
            return n;
        }

        int owners(Piece p) {
            return owners(p, 255);
        }

        int free() {
            int n = 0;
            for (Piece p : pieces) {
                if (owners(p) == 0) {
                    n++;
                }
            }
            return n;
        }

        int promised() {
            int n = 0;
            for (Volume v : volumes) {
                n += v == null ? 0 : v.promise;
            }
            return n;
        }

        int available() {
            return free() - promised();
        }

        int level() {
            int a = available();
            if (a <= settings[1]) {
                return 2;
            }
            if (a <= settings[0]) {
                return 1;
            }
            return 0;
        }

        List<Integer> order() {
            List<Integer> order = new ArrayList<>();
            for (int v = 0; v < 8; v++) {
                if (volumes[v] != null) {
                    order.add(v);
                }
            }
            order.sort((a, b) -> volumes[a].manners != volumes[b].manners
                ? volumes[b].manners - volumes[a].manners : a - b);
            return order;
        }

        void warn(int kind, int volume) {
            warnings.add(0, new int[] {kind, volume, available()});
            if (warnings.size() > 10) {
                warnings.remove(10);
            }
        }

        void manners(int v, int change) {
            volumes[v].manners = Math.max(0, Math.min(100, volumes[v].manners + change));
        }

        boolean mayGet(int v) {
            if (volumes[v].promise > 0) {
                return true;
            }
            if (available() <= 0) {
                return false;
            }
            switch (level()) {
                case 0: return true;
                case 1: return volumes[v].manners >= settings[2];
                default: return order().get(0) == v;
            }
        }

        int write(int v, int place, int value) {
            Volume volume = volumes[v];
            Piece old = volume.places[place];
            if (old != null && owners(old) == 1) {
                old.value = value;
                return old.number;
            }
            if (!mayGet(v)) {
                manners(v, -1);
                volume.refused++;
                refusals++;
                warn(1, v);
                return Model.REFUSED;
            }
            int level = level();
            Piece fresh = null;
            for (int p = 29; p >= 0; p--) {
                if (owners(pieces[p]) == 0) {
                    fresh = pieces[p];
                }
            }
            volume.places[place] = fresh;
            fresh.value = value;
            volume.got++;
            got++;
            if (volume.promise > 0) {
                volume.promise--;
                if (volume.promise == 0) {
                    warn(2, v);
                }
            } else if (level > 0) {
                manners(v, -3);
            }
            return fresh.number;
        }

        int trim(int v, int place) {
            Piece p = volumes[v].places[place];
            volumes[v].places[place] = null;
            if (owners(p) == 0) {
                freed++;
                return 1;
            }
            return 0;
        }

        int sweep(int v) {
            int n = 0;
            for (int i = 0; i < volumes[v].places.length; i++) {
                Piece p = volumes[v].places[i];
                if (p != null && p.value == 0) {
                    int one = trim(v, i);
                    manners(v, 2 * one);
                    n += one;
                }
            }
            return n;
        }

        int merge() {
            int n = 0;
            for (int value = 0; value < 100; value++) {
                Piece first = null;
                for (Piece p : pieces) {
                    if (p.value == value && owners(p) > 0) {
                        if (first == null) {
                            first = p;
                            continue;
                        }
                        n++;
                        for (Volume v : volumes) {
                            for (int i = 0; v != null && i < v.places.length; i++) {
                                if (v.places[i] == p) {
                                    v.places[i] = first;
                                }
                            }
                        }
                    }
                }
            }
            freed += n;
            return n;
        }

        int add(Volume volume) {
            for (int v = 0; v < 8; v++) {
                if (volumes[v] == null) {
                    volumes[v] = volume;
                    return v;
                }
            }
            return Model.LIMIT_REACHED;
        }

        int share(int v) {
            Volume clone = new Volume();
            clone.places = volumes[v].places.clone();
            clone.parent = v;
            return add(clone);
        }

        int drop(int v) {
            int n = 0;
            for (int i = 0; i < volumes[v].places.length; i++) {
                n += volumes[v].places[i] == null ? 0 : trim(v, i);
            }
            for (Volume other : volumes) {
                if (other != null && other.parent == v) {
                    other.parent = volumes[v].parent;
                }
            }
            volumes[v] = null;
            return n;
        }

        TreeSet<Integer> clones(int v) {
            TreeSet<Integer> set = new TreeSet<>();
            for (int c = 0; c < 8; c++) {
                if (volumes[c] != null && volumes[c].parent == v) {
                    set.add(c);
                }
            }
            return set;
        }

        int family(int v) {
            int set = 1 << v;
            for (int c : clones(v)) {
                set |= family(c);
            }
            return set;
        }

        int depth(int v) {
            int most = 0;
            for (int c : clones(v)) {
                most = Math.max(most, 1 + depth(c));
            }
            return most;
        }

        int alone(int set) {
            int n = 0;
            for (Piece p : pieces) {
                if (owners(p) > 0 && owners(p) == owners(p, set)) {
                    n++;
                }
            }
            return n;
        }

        int couldGet(int v) {
            State s = copy();
            Volume volume = s.volumes[v];
            volume.places = java.util.Arrays.copyOf(volume.places, 80);
            int n = 0;
            for (int i = 40; i < 80; i++) {
                if (s.write(v, i, 1) == Model.REFUSED) {
                    return n;
                }
                n++;
            }
            return n;
        }
    }

    private static final class Model {
        static final int INVALID_ARGUMENT = -1000001;
        static final int NOT_POSSIBLE = -1000002;
        static final int LIMIT_REACHED = -1000003;
        static final int NOT_FOUND = -1000004;
        static final int REFUSED = -1000005;

        State now = new State();
        List<State> history = new ArrayList<>();
        String text = "";

        int answer(int which, int[] a) {
            if (which <= 8 || which == 23) {
                State before = now.copy();
                int level = now.level();
                int result = change(which, a);
                if (result >= 0 || result == REFUSED) {
                    if (which != 23) {
                        warnOfLevel(now, level);
                    }
                    history.add(before);
                    if (history.size() == 5) {
                        history.remove(0);
                    }
                } else {
                    now = before;
                }
                return result;
            }
            if (which == 19) {
                if (history.isEmpty()) {
                    return NOT_POSSIBLE;
                }
                now = history.remove(history.size() - 1);
                return history.size();
            }
            if (which == 20) {
                if (a[0] < 32 || a[0] > 126) {
                    return INVALID_ARGUMENT;
                }
                if (text.length() == 60) {
                    return LIMIT_REACHED;
                }
                text += (char) a[0];
                return text.length();
            }
            if (which == 21) {
                int n = text.length();
                text = "";
                return n;
            }
            return which == 18 ? count(a[0]) : ask(which, a);
        }

        static void warnOfLevel(State s, int before) {
            if (s.level() > before) {
                s.warn(0, -1);
            }
        }

        int change(int which, int[] a) {
            int v = a[0];
            switch (which) {
                case 0:
                    if (v < 1 || v > 40) {
                        return INVALID_ARGUMENT;
                    }
                    Volume n = new Volume();
                    n.places = new Piece[v];
                    return now.add(n);
                case 3:
                    if (!now.lives(v) || a[1] < 0 || a[1] > 30) {
                        return INVALID_ARGUMENT;
                    }
                    int old = now.volumes[v].promise;
                    now.volumes[v].promise = a[1];
                    return now.available() < 0 ? NOT_POSSIBLE : old;
                case 4:
                    if (v < 0 || v > 2 || a[1] < 0 || a[1] > (v == 2 ? 100 : 30)) {
                        return INVALID_ARGUMENT;
                    }
                    int was = now.settings[v];
                    now.settings[v] = a[1];
                    return was;
                case 5:
                    if (!now.hasPlace(v, a[1]) || a[2] < 0 || a[2] > 99) {
                        return INVALID_ARGUMENT;
                    }
                    return now.write(v, a[1], a[2]);
                case 6:
                    if (!now.hasPlace(v, a[1])) {
                        return INVALID_ARGUMENT;
                    }
                    if (now.volumes[v].places[a[1]] == null) {
                        return NOT_POSSIBLE;
                    }
                    int one = now.trim(v, a[1]);
                    now.manners(v, 2 * one);
                    return one;
                case 8:
                    return now.merge();
                case 23:
                    int refusals = now.refusals;
                    return follow(now)[1] != 0 ? NOT_POSSIBLE : now.refusals - refusals;
                default:
                    if (!now.lives(v)) {
                        return INVALID_ARGUMENT;
                    }
                    return which == 1 ? now.share(v) : which == 2 ? now.drop(v) : now.sweep(v);
            }
        }

        /** Does the orders; returns the position and the reason of the fault, reason 0 without one. */
        int[] follow(State s) {
            int at = 0;
            while (at < text.length()) {
                int end = text.indexOf(';', at);
                String order = end < 0 ? "" : text.substring(at, end);
                boolean form = order.matches("w[0-9]{1,2},[0-9]{1,2},[0-9]{1,2}") || order.matches("[scd][0-9]{1,2}")
                    || order.matches("t[0-9]{1,2},[0-9]{1,2}") || order.equals("m");
                if (!form) {
                    return new int[] {at, 1};
                }
                int reason = obey(s, order);
                if (reason != 0) {
                    return new int[] {at, reason};
                }
                at = end + 1;
            }
            return new int[] {0, 0};
        }

        static int obey(State s, String order) {
            int level = s.level();
            char kind = order.charAt(0);
            if (kind == 'm') {
                s.merge();
                return 0;
            }
            String[] parts = order.substring(1).split(",");
            int v = Integer.parseInt(parts[0]);
            int place = parts.length > 1 ? Integer.parseInt(parts[1]) : 0;
            if (!s.hasPlace(v, place)) {
                return 2;
            }
            switch (kind) {
                case 'w': s.write(v, place, Integer.parseInt(parts[2])); break;
                case 't':
                    if (s.volumes[v].places[place] == null) {
                        return 3;
                    }
                    s.manners(v, 2 * s.trim(v, place));
                    break;
                case 's': s.sweep(v); break;
                case 'c':
                    if (s.share(v) < 0) {
                        return 3;
                    }
                    break;
                default: s.drop(v); break;
            }
            warnOfLevel(s, level);
            return 0;
        }

        int ask(int which, int[] a) {
            int v = a[0];
            int what = a[1];
            boolean lives = now.lives(v);
            switch (which) {
                case 9:
                    if (!now.hasPlace(v, what) || a[2] < 0 || a[2] > 1) {
                        return INVALID_ARGUMENT;
                    }
                    Piece p = now.volumes[v].places[what];
                    return a[2] == 0 ? (p == null ? 0 : p.value) : p == null ? NOT_FOUND : p.number;
                case 10:
                    return !lives || what < 0 || what > 9 ? INVALID_ARGUMENT : ofVolume(v, what);
                case 11:
                    if (v < 0 || v > 29 || what < 0 || what > 2) {
                        return INVALID_ARGUMENT;
                    }
                    return ofPiece(now.pieces[v], what);
                case 12:
                    if (v < 0 || what < 0 || what > 2) {
                        return INVALID_ARGUMENT;
                    }
                    return v < now.warnings.size() ? now.warnings.get(v)[what] : NOT_FOUND;
                case 13:
                    return lives ? now.couldGet(v) : INVALID_ARGUMENT;
                case 14:
                    return couldFree(v);
                case 15:
                    if (!lives || what < 0 || what > 2) {
                        return INVALID_ARGUMENT;
                    }
                    return what == 0 ? now.family(v) : what == 1 ? now.alone(now.family(v)) : now.depth(v);
                case 16:
                    return v < 0 ? INVALID_ARGUMENT : v < now.order().size() ? now.order().get(v) : NOT_FOUND;
                case 17:
                    return v < 0 || v > 1 ? INVALID_ARGUMENT : over(v);
                default:
                    if (v < 0 || v > 1) {
                        return INVALID_ARGUMENT;
                    }
                    int[] fault = follow(now.copy());
                    return fault[1] == 0 ? NOT_FOUND : fault[v];
            }
        }

        int over(int part) {
            java.math.BigInteger sum = java.math.BigInteger.ZERO;
            for (Volume v : now.volumes) {
                sum = sum.add(java.math.BigInteger.valueOf(v == null ? 0 : v.places.length));
            }
            java.math.BigInteger thirty = java.math.BigInteger.valueOf(30);
            java.math.BigInteger gcd = sum.gcd(thirty);
            return (part == 0 ? sum : thirty).divide(gcd).intValue();
        }

        int ofVolume(int v, int what) {
            Volume volume = now.volumes[v];
            switch (what) {
                case 0: return volume.places.length;
                case 1:
                    int n = 0;
                    for (Piece p : volume.places) {
                        n += p == null ? 0 : 1;
                    }
                    return n;
                case 2: return now.alone(1 << v);
                case 3: return volume.manners;
                case 4: return volume.promise;
                case 5: return volume.parent < 0 ? NOT_FOUND : volume.parent;
                case 6:
                    int set = 0;
                    for (int c : now.clones(v)) {
                        set += 1 << c;
                    }
                    return set;
                case 7: return now.order().indexOf(v);
                case 8: return volume.refused;
                default: return volume.got;
            }
        }

        int ofPiece(Piece p, int what) {
            if (now.owners(p) == 0) {
                return NOT_FOUND;
            }
            if (what == 0) {
                return p.value;
            }
            int set = 0;
            for (int v = 0; v < 8; v++) {
                set += now.owners(p, 1 << v) > 0 ? 1 << v : 0;
            }
            return what == 1 ? now.owners(p) : set;
        }

        int couldFree(int v) {
            State s = now.copy();
            int before = s.free();
            if (v == -2) {
                for (int w = 0; w < 8; w++) {
                    if (s.lives(w)) {
                        s.sweep(w);
                    }
                }
            } else if (v != -1) {
                if (!s.lives(v)) {
                    return INVALID_ARGUMENT;
                }
                s.sweep(v);
            }
            if (v < 0) {
                s.merge();
            }
            return s.free() - before;
        }

        int count(int what) {
            int n = 0;
            switch (what) {
                case 0: return now.order().size();
                case 1: return now.free();
                case 2: return now.available();
                case 3: return now.level();
                case 4: return now.promised();
                case 5:
                    for (int v : now.order()) {
                        n += ofVolume(v, 1);
                    }
                    return n;
                case 6:
                    for (Piece p : now.pieces) {
                        n += now.owners(p) > 1 ? 1 : 0;
                    }
                    return n;
                case 7: return now.refusals;
                case 8: return now.got;
                case 9: return now.freed;
                case 10: return now.warnings.size();
                case 11: return history.size();
                case 12: return text.length();
                case 20:
                case 21:
                case 22: return now.settings[what - 20];
                default: return INVALID_ARGUMENT;
            }
        }
    }
}
