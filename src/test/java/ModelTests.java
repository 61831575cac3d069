import java.util.ArrayDeque;
import java.util.ArrayList;
import java.util.Arrays;
import java.util.Deque;
import java.util.HashSet;
import java.util.List;
import java.util.Set;
import java.util.TreeMap;
import java.util.regex.Matcher;
import java.util.regex.Pattern;

/**
 * Runs of calls on the class and on a second writing of the document, in another style: hours are objects of
 * classes over one another, books are arrays, and the machine itself finds what the document says it finds.
 */
public final class ModelTests {
    private static final int NONE = -1, UNKNOWN = -2, OUTSIDE = -3, NOT = -4, FULL = -5;
    private static final int NULL = -11, INDEX = -12, EMPTY = -13, CAST = -14, SIZE = -15;
    private static final int OBJECTS = 12000, CALLS = 512;

    // ---- the second writing

    private abstract static class Hour implements Cloneable {
        int number, home, at, tired, told, ridden;
        boolean lame;

        int takes(int m) { return m; }
        int tires(int m) { return m; }
        int rests() { return 2; }
        boolean willing() { return true; }
        boolean throwsNow() { return false; }
        abstract int kind();

        Hour twin() {
            try {
                return (Hour) clone();
            } catch (CloneNotSupportedException e) {
                throw new IllegalStateException(e);
            }
        }
    }

    private static class Hack extends Hour {
        @Override int kind() { return 0; }
    }

    private static final class Vicious extends Hack {
        @Override int kind() { return 1; }
        @Override int rests() { return super.rests() + 1; }
        @Override boolean throwsNow() { return ridden > 0 && ridden % 3 == 0; }
    }

    private static final class Dawn extends Hack {
        @Override int kind() { return 2; }
        @Override int takes(int m) { return super.takes(m) / 2 + 1; }
        @Override int tires(int m) { return super.tires(m) * 2; }
    }

    private static class Grey extends Hour {
        @Override int kind() { return 3; }
        @Override int takes(int m) { return m + m; }
        @Override int tires(int m) { return 0; }
        @Override int rests() { return 1; }
    }

    private static final class Midnight extends Grey {
        @Override int kind() { return 4; }
        @Override int tires(int m) { return super.tires(m) + 1; }
        @Override boolean willing() { return false; }
    }

    private static final List<Class<?>> KINDS =
            List.of(Hour.class, Hack.class, Vicious.class, Dawn.class, Grey.class, Midnight.class);

    private static Hour make(int kind) {
        switch (kind) {
            case 0: return new Hack();
            case 1: return new Vicious();
            case 2: return new Dawn();
            case 3: return new Grey();
            default: return new Midnight();
        }
    }

    private static final class Rider {
        int from, goal, at, to, clock;

        Rider twin() {
            Rider other = new Rider();
            other.from = from;
            other.goal = goal;
            other.at = at;
            other.to = to;
            other.clock = clock;
            return other;
        }
    }

    private static final class World {
        List<Integer> miles = new ArrayList<>();
        List<Hour> hours = new ArrayList<>();
        List<Rider> riders = new ArrayList<>();
        int stage;

        World twin() {
            World other = new World();
            other.miles.addAll(miles);
            for (Hour h : hours) {
                other.hours.add(h.twin());
            }
            for (Rider r : riders) {
                other.riders.add(r.twin());
            }
            other.stage = stage;
            return other;
        }

        int leg(int a, int b) {
            return miles.get(a < b ? b : a);
        }

        Hour given(Rider r, Set<Hour> ridden) {
            List<Hour> can = new ArrayList<>();
            for (Hour h : hours) {
                if (h.at == r.at && !h.lame && !ridden.contains(h)) {
                    can.add(h);
                }
            }
            can.sort((a, b) -> a.willing() != b.willing() ? (a.willing() ? -1 : 1)
                    : a.tired != b.tired ? a.tired - b.tired : a.number - b.number);
            return can.isEmpty() ? null : can.get(0);
        }

        void step() {
            Set<Hour> ridden = new HashSet<>();
            for (Rider r : riders) {
                if (r.at == r.to) {
                    continue;
                }
                Hour h = given(r, ridden);
                if (h == null) {
                    r.clock += 1;
                    continue;
                }
                ridden.add(h);
                h.ridden += 1;
                if (h.throwsNow()) {
                    r.clock += 2;
                    h.tired += 1;
                } else {
                    int next = r.to > r.at ? r.at + 1 : r.at - 1;
                    r.clock += h.takes(leg(r.at, next));
                    h.tired += h.tires(leg(r.at, next));
                    r.at = next;
                    h.at = next;
                }
                if (h.tired >= 10) {
                    h.tired = 10;
                    h.lame = true;
                }
            }
            Set<Hour> led = new HashSet<>();
            for (int inn = 0; inn < miles.size(); inn++) {
                for (Hour h : hours) {
                    if (h.at == inn && h.at != h.home && !h.lame && !ridden.contains(h) && !led.contains(h)) {
                        led.add(h);
                        h.at += h.home > h.at ? 1 : -1;
                        break;
                    }
                }
            }
            for (Hour h : hours) {
                if (ridden.contains(h)) {
                    continue;
                }
                if (h.lame) {
                    h.tired -= 1;
                    h.lame = h.tired > 0;
                } else {
                    h.tired -= Math.min(h.tired, h.rests());
                }
            }
            stage += 1;
        }
    }

    private static final class Line {
        final int what, value;

        Line(int what, int value) {
            this.what = what;
            this.value = value;
        }
    }

    private static final class Bad extends RuntimeException {
        private static final long serialVersionUID = 1;
        final int answer;

        Bad(int answer) {
            this.answer = answer;
        }
    }

    private static void need(boolean fine, int answer) {
        if (!fine) {
            throw new Bad(answer);
        }
    }

    private static final class Model {
        private static final Pattern TOKEN = Pattern.compile("[a-z]+|[0-9]+|[^ ]", Pattern.DOTALL);
        private static final List<String> WORDS =
                List.of("hack", "vicious", "dawn", "grey", "midnight", "road", "inn", "rider");

        final StringBuilder text = new StringBuilder();
        World world = new World();
        final Deque<World> past = new ArrayDeque<>();
        final World[] kept = new World[2];
        final List<int[]> seen = new ArrayList<>();
        Line[][] books = new Line[4][];

        // the first token that can't stand, and the world that is told up to it
        private int fault;
        private World draft;
        private int clauses;

        private void parse() {
            draft = world.twin();
            fault = NONE;
            clauses = 0;
            List<String> tokens = new ArrayList<>();
            List<Integer> places = new ArrayList<>();
            Matcher m = TOKEN.matcher(text);
            while (m.find()) {
                tokens.add(m.group());
                places.add(m.start());
            }
            places.add(text.length());
            int at = 0;
            while (true) {
                int used = clauseAt(tokens, at);
                if (used < 0) {
                    fault = places.get(at + (-used - 1));
                    return;
                }
                at += used;
                clauses++;
                if (at == tokens.size()) {
                    return;
                }
                if (!tokens.get(at).equals(";") || clauses == 20) {
                    fault = places.get(at);
                    return;
                }
                at++;
            }
        }

        /** How many tokens the clause has; or, below 0, minus one minus the token in it that is wrong. */
        private int clauseAt(List<String> tokens, int at) {
            int word = at < tokens.size() ? WORDS.indexOf(tokens.get(at)) : -1;
            if (word < 0 || word == 6 && draft.miles.size() == 6 || word == 7 && draft.riders.size() == 4
                    || word < 5 && draft.hours.size() == 8) {
                return -1;
            }
            int inns = draft.miles.size();
            int[][] bounds = word == 5 ? new int[][] {} : word == 6 ? new int[][] {{1, 9}}
                    : word == 7 ? new int[][] {{0, inns - 1}, {0, inns - 1}} : new int[][] {{0, inns - 1}, {0, 9}};
            int[] n = new int[2];
            for (int i = 0; i < bounds.length; i++) {
                String token = at + 1 + i < tokens.size() ? tokens.get(at + 1 + i) : "";
                if (!token.matches("[0-9]")) {
                    return -(i + 1) - 1;
                }
                n[i] = Integer.parseInt(token);
                if (n[i] < bounds[i][0] || n[i] > bounds[i][1]) {
                    return -(i + 1) - 1;
                }
            }
            if (word == 5) {
                draft = new World();
            } else if (word == 6) {
                draft.miles.add(n[0]);
            } else if (word == 7) {
                Rider r = new Rider();
                r.from = n[0];
                r.goal = n[1];
                draft.riders.add(r);
            } else {
                Hour h = make(word);
                h.number = draft.hours.size();
                h.home = n[0];
                h.told = n[1];
                draft.hours.add(h);
            }
            return 1 + bounds.length;
        }

        private Hour hour(int h) {
            need(h >= 0 && h < world.hours.size(), UNKNOWN);
            return world.hours.get(h);
        }

        private Rider rider(int r) {
            need(r >= 0 && r < world.riders.size(), UNKNOWN);
            return world.riders.get(r);
        }

        private void inn(int i) {
            need(i >= 0 && i < world.miles.size(), UNKNOWN);
        }

        private static void book(int b) {
            need(b >= 0 && b < 4, UNKNOWN);
        }

        private static void within(int n, int low, int high) {
            need(n >= low && n <= high, OUTSIDE);
        }

        private void done() {
            past.push(world.twin());
            if (past.size() > 8) {
                past.removeLast();
            }
        }

        private static int bit(boolean is) {
            return is ? 1 : 0;
        }

        int answer(int call, int... a) {
            try {
                return call <= 8 ? told(call, a) : call <= 16 ? done(call, a) : call <= 23 ? foretold(call, a)
                        : call <= 27 ? seen(call, a) : books(call, a);
            } catch (Bad bad) {
                return bad.answer;
            } catch (NullPointerException e) {
                return NULL;
            } catch (ArrayIndexOutOfBoundsException e) {
                return INDEX;
            } catch (NegativeArraySizeException e) {
                return SIZE;
            }
        }

        private int told(int call, int[] a) {
            switch (call) {
                case 1:
                    within(a[0], 0, 255);
                    need(text.length() < 200, FULL);
                    text.append((char) a[0]);
                    return text.length();
                case 2: {
                    int n = text.length();
                    text.setLength(0);
                    return n;
                }
                case 3:
                    parse();
                    return fault;
                case 4:
                    return road();
                case 5: {
                    Hour h = hour(a[0]);
                    within(a[1], 0, 5);
                    return new int[] {h.kind(), h.home, h.at, h.tired, bit(h.lame), h.ridden}[a[1]];
                }
                case 6: {
                    Rider r = rider(a[0]);
                    within(a[1], 0, 2);
                    return new int[] {r.at, r.to, r.clock}[a[1]];
                }
                case 7:
                    inn(a[0]);
                    return world.miles.get(a[0]);
                default: {
                    Hour h = hour(a[0]);
                    within(a[1], 0, 5);
                    need(KINDS.get(a[1]).isInstance(h), NOT);
                    return h.takes(5);
                }
            }
        }

        private int road() {
            parse();
            need(fault == NONE, NOT);
            world = draft;
            world.stage = 0;
            for (Hour h : world.hours) {
                h.at = h.home;
                h.tired = h.told;
                h.lame = false;
                h.ridden = 0;
            }
            for (Rider r : world.riders) {
                r.at = r.from;
                r.to = r.goal;
                r.clock = 0;
            }
            text.setLength(0);
            past.clear();
            kept[0] = null;
            kept[1] = null;
            seen.clear();
            books = new Line[4][];
            return clauses;
        }

        private int done(int call, int[] a) {
            switch (call) {
                case 9:
                    within(a[0], 1, 12);
                    need(world.stage + a[0] <= 999, FULL);
                    done();
                    for (int i = 0; i < a[0]; i++) {
                        world.step();
                    }
                    return world.stage;
                case 10: {
                    need(hour(a[0]).tired != 0, NOT);
                    done();
                    oats(world, a[0]);
                    return hour(a[0]).tired;
                }
                case 11: {
                    need(hour(a[0]).lame, NOT);
                    done();
                    int was = hour(a[0]).tired;
                    hour(a[0]).tired = 5;
                    hour(a[0]).lame = false;
                    return was;
                }
                case 12: {
                    int was = hour(a[0]).at;
                    inn(a[1]);
                    need(was != a[1], NOT);
                    done();
                    hour(a[0]).at = a[1];
                    return was;
                }
                case 13: {
                    int was = rider(a[0]).to;
                    inn(a[1]);
                    need(was != a[1], NOT);
                    done();
                    rider(a[0]).to = a[1];
                    return was;
                }
                case 14:
                    need(!past.isEmpty(), NOT);
                    world = past.pop();
                    return past.size();
                case 15:
                    need(a[0] == 0 || a[0] == 1, UNKNOWN);
                    kept[a[0]] = world.twin();
                    return world.stage;
                default:
                    need(a[0] == 0 || a[0] == 1, UNKNOWN);
                    need(kept[a[0]] != null, NOT);
                    world = kept[a[0]].twin();
                    past.clear();
                    return world.stage;
            }
        }

        private static void oats(World w, int h) {
            Hour hour = w.hours.get(h);
            hour.tired = hour.tired < 3 ? 0 : hour.tired - 3;
            hour.lame = hour.lame && hour.tired != 0;
        }

        private int foretold(int call, int[] a) {
            switch (call) {
                case 17: {
                    Rider r = rider(a[0]);
                    Hour h = r.at == r.to ? null : world.given(r, Set.of());
                    return h == null ? NONE : h.number;
                }
                case 18: {
                    hour(a[0]);
                    within(a[1], 0, 60);
                    within(a[2], 0, 2);
                    World w = world.twin();
                    for (int i = 0; i < a[1]; i++) {
                        w.step();
                    }
                    Hour h = w.hours.get(a[0]);
                    return a[2] == 0 ? h.at : a[2] == 1 ? h.tired : bit(h.lame);
                }
                case 19:
                    rider(a[0]);
                    within(a[1], 0, 1);
                    return comes(world.twin(), a[0], 60)[a[1]];
                case 20: {
                    need(a[0] == NONE || a[0] >= 0 && a[0] < world.riders.size(), UNKNOWN);
                    List<int[]> all = new ArrayList<>();
                    pairs(all, new int[5], 0);
                    int[] best = null;
                    for (int[] one : all) {
                        best = best == null || one[4] < best[4] ? one : best;
                    }
                    return best == null ? NONE : best[a[0] == NONE ? 4 : a[0]];
                }
                case 21:
                    return fastest(rider(a[0]));
                case 22:
                    rider(a[0]);
                    within(a[1], 1, 40);
                    return feed(a[0], a[1]);
                default:
                    within(a[0], 0, 9);
                    within(a[1], 0, 10);
                    within(a[2], 0, 9);
                    within(a[3], 0, 1);
                    return falls(a[0], a[1], a[2])[a[3]];
            }
        }

        private static int[] comes(World w, int rider, int most) {
            Rider r = w.riders.get(rider);
            for (int n = 0; n <= most; n++) {
                if (r.at == r.to) {
                    return new int[] {n, r.clock};
                }
                w.step();
            }
            return new int[] {NONE, NONE};
        }

        /** All pairings, in the order of the hours rider by rider; place 4 has what they take together. */
        private void pairs(List<int[]> all, int[] one, int rider) {
            if (rider == world.riders.size()) {
                all.add(one.clone());
                return;
            }
            Rider r = world.riders.get(rider);
            if (r.at == r.to) {
                one[rider] = NONE;
                pairs(all, one, rider + 1);
                return;
            }
            int leg = world.leg(r.at, r.to > r.at ? r.at + 1 : r.at - 1);
            for (Hour h : world.hours) {
                boolean other = true;
                for (int i = 0; i < rider; i++) {
                    other &= one[i] != h.number;
                }
                if (other && !h.lame && h.at == r.at) {
                    int[] more = one.clone();
                    more[rider] = h.number;
                    more[4] += h.takes(leg);
                    pairs(all, more, rider + 1);
                }
            }
        }

        /** Goes back from where he goes to. */
        private int fastest(Rider r) {
            if (r.at == r.to) {
                return 0;
            }
            int step = r.at < r.to ? 1 : -1;
            int sum = 0;
            for (int inn = r.to - step; ; inn -= step) {
                int leg = world.leg(inn, inn + step);
                int best = Integer.MAX_VALUE;
                for (Hour h : world.hours) {
                    if (h.at == inn && !h.lame && h.tired + h.tires(leg) <= 9) {
                        best = Math.min(best, h.takes(leg));
                    }
                }
                if (best == Integer.MAX_VALUE) {
                    return NONE;
                }
                sum += best;
                if (inn == r.at) {
                    return sum;
                }
            }
        }

        private int feed(int rider, int n) {
            List<Integer> sets = new ArrayList<>();
            for (int set = 0; set < 1 << world.hours.size(); set++) {
                if (Integer.bitCount(set) <= 3) {
                    sets.add(set);
                }
            }
            sets.sort((a, b) -> Integer.bitCount(a) != Integer.bitCount(b)
                    ? Integer.bitCount(a) - Integer.bitCount(b) : a - b);
            for (int set : sets) {
                World w = world.twin();
                for (int h = 0; h < w.hours.size(); h++) {
                    if ((set & 1 << h) != 0) {
                        oats(w, h);
                    }
                }
                if (comes(w, rider, n)[0] != NONE) {
                    return set;
                }
            }
            return NONE;
        }

        /** Ride by ride: the odds of each number of falls, over ten to the n. */
        private static int[] falls(int n, int q, int m) {
            long[] odds = new long[12];
            odds[0] = 1;
            long below = 1;
            for (int ride = 0; ride < n; ride++) {
                for (int k = 10; k >= 0; k--) {
                    odds[k] = odds[k] * (10 - q) + (k == 0 ? 0 : odds[k - 1] * q);
                }
                below *= 10;
            }
            long above = 0;
            for (int k = m; k < 12; k++) {
                above += odds[k];
            }
            long a = above;
            long b = below;
            while (b != 0) {
                long rest = a % b;
                a = b;
                b = rest;
            }
            return new int[] {(int) (above / a), (int) (below / a)};
        }

        private int seen(int call, int[] a) {
            switch (call) {
                case 24:
                    within(a[0], 1, 9);
                    within(a[1], 0, 20);
                    within(a[2], 0, 20);
                    need(seen.size() < 6, FULL);
                    seen.add(a.clone());
                    return seen.size();
                case 25: {
                    int n = seen.size();
                    seen.clear();
                    return n;
                }
                case 26: {
                    int bits = 0;
                    for (int kind : fitting()) {
                        bits += 1 << kind;
                    }
                    return bits;
                }
                default:
                    return ask();
            }
        }

        private List<Integer> fitting() {
            List<Integer> kinds = new ArrayList<>();
            for (int kind = 0; kind < 5; kind++) {
                boolean fits = true;
                for (int[] s : seen) {
                    fits &= make(kind).takes(s[0]) == s[1] && make(kind).tires(s[0]) == s[2];
                }
                if (fits) {
                    kinds.add(kind);
                }
            }
            return kinds;
        }

        private int ask() {
            int best = NONE;
            int least = 9;
            for (int m = 9; m >= 1; m--) {
                TreeMap<String, Integer> parts = new TreeMap<>();
                for (int kind : fitting()) {
                    parts.merge(make(kind).takes(m) + " " + make(kind).tires(m), 1, Integer::sum);
                }
                int greatest = 0;
                for (int part : parts.values()) {
                    greatest = Math.max(greatest, part);
                }
                if (parts.size() > 1 && greatest <= least) {
                    least = greatest;
                    best = m;
                }
            }
            return best;
        }

        private int books(int call, int[] a) {
            if (call != 34) {
                book(a[0]);
            }
            switch (call) {
                case 28:
                    need(a[1] <= 10, OUTSIDE);
                    books[a[0]] = new Line[a[1]];
                    return a[1];
                case 29: {
                    if (a[2] == 1) {
                        hour(a[3]);
                    }
                    if (a[2] == 2) {
                        book(a[3]);
                    }
                    within(a[2], 0, 3);
                    need(a[2] != 0 || Math.abs((long) a[3]) <= 9999, OUTSIDE);
                    books[a[0]][a[1]] = a[2] == 3 ? null : new Line(a[2], a[3]);
                    return 1;
                }
                case 30: {
                    within(a[2], 0, 2);
                    Line line = books[a[0]][a[1]];
                    need(line != null, EMPTY);
                    need(line.what == a[2], CAST);
                    return line.value + (a[2] == 0 ? 50000 : 0);
                }
                case 31: {
                    within(a[1], 0, 1);
                    if (books[a[0]] == null) {
                        return NULL;
                    }
                    Set<Integer> through = new HashSet<>();
                    int weight = 1000000 + weigh(a[0], through);
                    return a[1] == 0 ? weight : through.size();
                }
                case 32:
                    book(a[2]);
                    System.arraycopy(books[a[0]], a[1], books[a[2]], a[3], a[4]);
                    return a[4];
                case 33: {
                    int filled = 0;
                    for (Line line : books[a[0]]) {
                        filled += line == null ? 0 : 1;
                    }
                    books[a[0]] = null;
                    return filled;
                }
                default:
                    return count(a[0]);
            }
        }

        private int weigh(int b, Set<Integer> through) {
            if (books[b] == null || !through.add(b)) {
                return 0;
            }
            int sum = 0;
            for (Line line : books[b]) {
                if (line != null) {
                    sum += line.what == 0 ? line.value : line.what == 1 ? 1000 : weigh(line.value, through);
                }
            }
            return sum;
        }

        private int count(int what) {
            within(what, 0, 10);
            int lame = 0;
            for (Hour h : world.hours) {
                lame += bit(h.lame) << h.number;
            }
            int there = 0;
            int clocks = 0;
            for (int r = 0; r < world.riders.size(); r++) {
                there += bit(rider(r).at == rider(r).to) << r;
                clocks += rider(r).clock;
            }
            int open = 0;
            for (Line[] one : books) {
                open += bit(one != null);
            }
            return new int[] {world.miles.size(), world.hours.size(), world.riders.size(), world.stage, lame, there,
                clocks, seen.size(), open, past.size(), text.length()}[what];
        }
    }

    // ---- the class, by the numbers of its calls

    private static final String[] NAMES = {"", "write", "erase", "fault", "road", "hour", "rider", "inn", "as", "stage",
        "oats", "shoe", "lead", "turn", "undo", "keep", "back", "given", "ahead", "comes", "match", "fastest", "feed",
        "falls", "seen", "forget", "kinds", "ask", "book", "enter", "read", "weigh", "copy", "drop", "count"};

    private static int answer(OstlerHours x, int call, int... a) {
        switch (call) {
            case 1: return x.write(a[0]);
            case 2: return x.erase();
            case 3: return x.fault();
            case 4: return x.road();
            case 5: return x.hour(a[0], a[1]);
            case 6: return x.rider(a[0], a[1]);
            case 7: return x.inn(a[0]);
            case 8: return x.as(a[0], a[1]);
            case 9: return x.stage(a[0]);
            case 10: return x.oats(a[0]);
            case 11: return x.shoe(a[0]);
            case 12: return x.lead(a[0], a[1]);
            case 13: return x.turn(a[0], a[1]);
            case 14: return x.undo();
            case 15: return x.keep(a[0]);
            case 16: return x.back(a[0]);
            case 17: return x.given(a[0]);
            case 18: return x.ahead(a[0], a[1], a[2]);
            case 19: return x.comes(a[0], a[1]);
            case 20: return x.match(a[0]);
            case 21: return x.fastest(a[0]);
            case 22: return x.feed(a[0], a[1]);
            case 23: return x.falls(a[0], a[1], a[2], a[3]);
            case 24: return x.seen(a[0], a[1], a[2]);
            case 25: return x.forget();
            case 26: return x.kinds();
            case 27: return x.ask();
            case 28: return x.book(a[0], a[1]);
            case 29: return x.enter(a[0], a[1], a[2], a[3]);
            case 30: return x.read(a[0], a[1], a[2]);
            case 31: return x.weigh(a[0], a[1]);
            case 32: return x.copy(a[0], a[1], a[2], a[3], a[4]);
            case 33: return x.drop(a[0]);
            default: return x.count(a[0]);
        }
    }

    // ---- runs: the numbers go round in a fixed way, so that a run that fails can be run again

    private static long state = 20261118;

    private static int pick(int bound) {
        state = state * 6364136223846793005L + 1442695040888963407L;
        return (int) ((state >>> 33) % bound);
    }

    private static int odd(int low, int high) {
        int[] edges = {low - 1, high + 1, Integer.MIN_VALUE, Integer.MAX_VALUE, -1, high + 9};
        return pick(25) == 0 ? edges[pick(edges.length)] : low + pick(high - low + 1);
    }

    private static String randomText() {
        StringBuilder text = new StringBuilder();
        boolean small = pick(3) == 0;
        int inns = small ? 2 + pick(2) : 2 + pick(6);
        int hours = pick(5) == 0 ? pick(9) : 3 + pick(6);
        int riders = pick(5) == 0 ? 1 + pick(4) : 2 + pick(3);
        String[] kinds = {"hack", "vicious", "dawn", "grey", "midnight"};
        if (pick(3) == 0) {
            text.append("road;");
        }
        int most = pick(3) == 0 ? 9 : 3;
        for (int i = 0; i < inns; i++) {
            text.append("inn ").append(1 + pick(most)).append(pick(40) == 0 ? " ; " : ";");
        }
        for (int i = 0; i < hours; i++) {
            text.append(kinds[pick(5)]).append(' ').append(pick(inns)).append(' ').append(pick(10)).append(';');
        }
        for (int i = 0; i < riders; i++) {
            text.append("rider ").append(pick(inns)).append(' ').append(pick(inns)).append(';');
        }
        text.setLength(text.length() - (pick(30) == 0 ? 0 : 1));
        if (pick(6) == 0) {
            String letters = ";; 019azi.\tI\u00e9";
            int at = pick(text.length());
            text.setCharAt(at, letters.charAt(pick(letters.length())));
        }
        return text.toString();
    }

    private static int[] randomArguments(int call) {
        switch (call) {
            case 1: return new int[] {odd(0, 255)};
            case 5: return new int[] {odd(0, 7), odd(0, 5)};
            case 6: return new int[] {odd(0, 3), odd(0, 2)};
            case 7: return new int[] {odd(0, 5)};
            case 8: return new int[] {odd(0, 7), odd(0, 5)};
            case 9: return new int[] {pick(4) != 0 ? 1 : odd(1, 12)};
            case 10:
            case 11: return new int[] {odd(0, 7)};
            case 12: return new int[] {odd(0, 7), odd(0, 5)};
            case 13: return new int[] {odd(0, 3), odd(0, 5)};
            case 15:
            case 16: return new int[] {odd(0, 1)};
            case 17:
            case 21: return new int[] {odd(0, 3)};
            case 18: return new int[] {odd(0, 7), odd(0, 60), odd(0, 2)};
            case 19: return new int[] {odd(0, 3), odd(0, 1)};
            case 20: return new int[] {odd(-1, 3)};
            case 22: return new int[] {odd(0, 3), odd(1, pick(2) == 0 ? 40 : 10)};
            case 23: return new int[] {odd(0, 9), odd(0, 10), odd(0, 9), odd(0, 1)};
            case 24: return randomSight();
            case 28: return new int[] {odd(0, 3), odd(pick(2) == 0 ? 6 : 0, 10)};
            case 29: return new int[] {odd(0, 3), odd(0, 6), odd(0, 3), pick(2) == 0 ? odd(0, 3) : odd(-9999, 9999)};
            case 30: return new int[] {odd(0, 3), odd(0, 6), odd(0, 2)};
            case 31: return new int[] {odd(0, 3), odd(0, 1)};
            case 32: return new int[] {odd(0, 3), odd(0, 6), odd(0, 3), odd(0, 6), odd(0, 5)};
            case 33: return new int[] {odd(0, 3)};
            case 34: return new int[] {odd(0, 10)};
            default: return new int[0];
        }
    }

    /** Mostly what one of the kinds would do. */
    private static int[] randomSight() {
        int m = odd(1, 9);
        if (pick(4) == 0 || m < 1 || m > 9) {
            return new int[] {m, odd(0, 20), odd(0, 20)};
        }
        Hour hour = make(pick(5));
        return new int[] {m, hour.takes(m), hour.tires(m)};
    }

    /** What clears much is rare; what sets the riders off again takes its room. */
    private static int randomCall() {
        int call = 1 + pick(34);
        int[] often = {13, 13, 13, 9, 12, 10, 29, 29, 28};
        if (call == 1 || call == 2 || call == 4 || call == 33 || call == 25) {
            return pick(8) == 0 ? call : often[pick(often.length)];
        }
        return call;
    }

    private static int[] calls = new int[CALLS];
    private static int[][] arguments = new int[CALLS][];

    private static boolean isSame(OstlerHours x, Model model, int n, int call, int... a) {
        calls[n] = call;
        arguments[n] = a;
        int got = answer(x, call, a);
        int want = model.answer(call, a);
        if (got == want) {
            return true;
        }
        for (int i = 0; i <= n; i++) {
            System.out.println("  " + NAMES[calls[i]] + Arrays.toString(arguments[i]));
        }
        System.out.println("answered " + got + ", due is " + want);
        return false;
    }

    private static boolean runOne() {
        OstlerHours x = new OstlerHours();
        Model model = new Model();
        int n = 0;
        String text = "";
        int written = 0;
        while (n < CALLS) {
            boolean same;
            if (written < text.length()) {
                same = isSame(x, model, n, 1, text.charAt(written));
                written++;
                if (same && written == text.length() && n + 3 < CALLS) {
                    same = isSame(x, model, n + 1, 3) && isSame(x, model, n + 2, 4) && isSame(x, model, n + 3, 2);
                    n += 3;
                }
            } else if (n == 0 || pick(120) == 0) {
                text = randomText();
                written = 0;
                continue;
            } else {
                int call = randomCall();
                same = isSame(x, model, n, call, randomArguments(call));
            }
            if (!same) {
                return false;
            }
            n++;
        }
        return true;
    }

    public static void main(String[] args) {
        int wrong = 0;
        for (int i = 0; i < OBJECTS && wrong < 3; i++) {
            if (!runOne()) {
                wrong++;
            }
        }
        System.out.println("runs of " + CALLS + " calls: " + OBJECTS + ", " + wrong + " not as the second writing");
        if (wrong != 0) {
            System.exit(1);
        }
    }
}
