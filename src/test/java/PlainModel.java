import java.util.ArrayDeque;
import java.util.ArrayList;
import java.util.Deque;
import java.util.HashMap;
import java.util.List;
import java.util.Map;
import java.util.regex.Matcher;
import java.util.regex.Pattern;

/**
 * The document once more, in other words than the program's: it searches where the program halves,
 * copies where the program saves rows, and reads texts by patterns. Slow on purpose.
 */
final class PlainModel {
    private static final int BAD = -1, NO = -2, FULL = -3, NONE = -4;
    private static final Pattern COLUMN = Pattern.compile("c(\\d{1,3});");
    private static final Pattern SHIP = Pattern.compile(
        "s(\\d{1,3}),(\\d{1,3}),(\\d{1,3}),(\\d{1,3}),(\\d{1,3}),(\\d{1,3}),(\\d{1,3});");
    private static final int[][] LIMITS = {{0, 19}, {0, 19}, {1, 60}, {1, 5}, {1, 9}, {1, 9}, {10, 999}};
    private static final String AT_FIRST =
        "c3;c4;c4;c6;c8;c8;c5;c4;c3;c2;s2,3,20,2,3,4,200;s5,9,40,3,5,6,300;s7,4,12,1,2,2,60;";
    /** HANG, GROUND, REACH, LIFT, TAUT by PULL, WEIGHT, LINKS and DEPTH. */
    private static final Map<List<Integer>, int[]> LIES = new HashMap<>();

    private static final class Boat implements Cloneable {
        int[] first;
        int[] second;
        int weight, length, area, grip, dragged;
        boolean ashore;

        Boat copy() {
            Boat b = new Boat();
            b.first = first.clone();
            b.second = second == null ? null : second.clone();
            b.weight = weight;
            b.length = length;
            b.area = area;
            b.grip = grip;
            b.dragged = dragged;
            b.ashore = ashore;
            return b;
        }

        int[] anchor(int which) {
            return which == 0 ? first : second;
        }
    }

    private record State(int hour, List<Boat> boats) { }

    private String text = "";
    private List<Integer> depths = new ArrayList<>();
    private List<Boat> boats = new ArrayList<>();
    private int hour;
    private final Deque<State> past = new ArrayDeque<>();

    PlainModel() {
        text = AT_FIRST;
        lay();
        text = "";
    }

    static int root(long n) {
        long r = (long) Math.sqrt((double) n);
        while (r * r > n) r--;
        while ((r + 1) * (r + 1) <= n) r++;
        return (int) r;
    }

    static int rise(int h, int v) {
        return 10 * v / root((long) h * h + (long) v * v);
    }

    private static int[] risesAndRuns(int h, int lift, int w, int n) {
        int rises = 0;
        int runs = 0;
        for (int i = 1; i <= n; i++) {
            int rise = rise(h, lift + i * w);
            rises += rise;
            runs += root(100 - rise * rise);
        }
        return new int[] {rises, runs};
    }

    static int[] lie(int h, int w, int n, int d) {
        List<Integer> key = List.of(h, w, n, d);
        int[] found = LIES.get(key);
        if (found == null) {
            found = lieAnew(h, w, n, d);
            LIES.put(key, found);
        }
        return found;
    }

    private static int[] lieAnew(int h, int w, int n, int d) {
        for (int k = 1; k <= n; k++) {
            int[] sums = risesAndRuns(h, 0, w, k);
            if (sums[0] >= 10 * d) {
                return new int[] {k, n - k, 10 * (n - k) + sums[1], 0, 0};
            }
        }
        for (int u = 1; u <= 999; u++) {
            int[] sums = risesAndRuns(h, u, w, n);
            if (sums[0] >= 10 * d) {
                return new int[] {n, 0, sums[1], u, 0};
            }
        }
        return new int[] {n, 0, 0, 999, 1};
    }

    private int[] lie(Boat b, int[] anchor, int n, int h) {
        return lie(h, b.weight, n, depths.get(anchor[0]));
    }

    private int holding(Boat b, int[] anchor, int n, int h) {
        int[] lie = lie(b, anchor, n, h);
        if (lie[4] == 1) return 0;
        return Math.max(0, b.grip - 3 * lie[3]);
    }

    private static int pull(Boat b, int wind) {
        return wind * wind * b.area / 4;
    }

    private boolean holds(Boat b, int n, int wind) {
        if (b.ashore) return false;
        int all = pull(b, wind);
        boolean firstAll = all <= holding(b, b.first, n, all);
        if (b.second == null) return firstAll;
        int half = all / 2 + all % 2;
        boolean firstHalf = half <= holding(b, b.first, n, half);
        boolean secondHalf = half <= holding(b, b.second, b.second[2], half);
        boolean secondAll = all <= holding(b, b.second, b.second[2], all);
        return firstHalf && secondHalf || firstAll || secondAll;
    }

    private boolean holds(Boat b, int wind) {
        return holds(b, b.first[2], wind);
    }

    private int swing(Boat b, int n, int wind) {
        return lie(b, b.first, n, pull(b, wind))[2] + 10 * b.length;
    }

    private boolean roomsApart(Boat a, int n, Boat b, int wind) {
        if (a.ashore || b.ashore) return true;
        long x = 10L * (a.first[0] - b.first[0]);
        long y = 10L * (a.first[1] - b.first[1]);
        long both = swing(a, n, wind) + swing(b, b.first[2], wind);
        return x * x + y * y >= both * both;
    }

    private static boolean in(int n, int least, int most) {
        return least <= n && n <= most;
    }

    private boolean noShip(int s) {
        return s < 0 || s >= boats.size();
    }

    private void remember() {
        List<Boat> copies = new ArrayList<>();
        for (Boat b : boats) copies.add(b.copy());
        past.addLast(new State(hour, copies));
        if (past.size() > 6) past.removeFirst();
    }

    int write(int letter) {
        if (!in(letter, 32, 126)) return BAD;
        if (text.length() == 200) return FULL;
        text = text + (char) letter;
        return text.length();
    }

    int wipe() {
        int n = text.length();
        text = "";
        return n;
    }

    /** The place of the FAULT; what is told ahead of it goes into the lists. */
    private int read(List<Integer> columns, List<Boat> ships) {
        int at = 0;
        while (at < text.length()) {
            Matcher m = COLUMN.matcher(text).region(at, text.length());
            Matcher s = SHIP.matcher(text).region(at, text.length());
            if (m.lookingAt()) {
                int depth = Integer.parseInt(m.group(1));
                if (!in(depth, 1, 20) || columns.size() == 20) return at;
                columns.add(depth);
                at = m.end();
            } else if (s.lookingAt()) {
                int[] n = new int[7];
                for (int i = 0; i < 7; i++) {
                    n[i] = Integer.parseInt(s.group(i + 1));
                    if (!in(n[i], LIMITS[i][0], LIMITS[i][1])) return at;
                }
                if (n[0] >= columns.size() || ships.size() == 5) return at;
                Boat b = new Boat();
                b.first = new int[] {n[0], n[1], n[2]};
                b.weight = n[3];
                b.length = n[4];
                b.area = n[5];
                b.grip = n[6];
                ships.add(b);
                at = s.end();
            } else {
                return at;
            }
        }
        return NONE;
    }

    int fault() {
        return read(new ArrayList<>(), new ArrayList<>());
    }

    int lay() {
        List<Integer> columns = new ArrayList<>();
        List<Boat> ships = new ArrayList<>();
        if (read(columns, ships) != NONE || columns.size() < 2 || ships.isEmpty()) return NO;
        depths = columns;
        boats = ships;
        hour = 0;
        past.clear();
        return boats.size();
    }

    int links(int s, int anchor, int n) {
        if (noShip(s) || !in(anchor, 0, 1) || !in(n, 1, 60)) return BAD;
        Boat b = boats.get(s);
        if (b.ashore || b.anchor(anchor) == null) return NO;
        remember();
        int old = b.anchor(anchor)[2];
        b.anchor(anchor)[2] = n;
        return old;
    }

    int moor(int s, int x, int y, int n) {
        if (noShip(s) || !in(x, 0, depths.size() - 1) || !in(y, 0, 19) || !in(n, 1, 60)) return BAD;
        Boat b = boats.get(s);
        if (b.ashore || b.second != null) return NO;
        remember();
        b.second = new int[] {x, y, n};
        return depths.get(x);
    }

    int weigh(int s) {
        if (noShip(s)) return BAD;
        Boat b = boats.get(s);
        if (b.ashore || b.second == null) return NO;
        remember();
        int n = b.second[2];
        b.second = null;
        return n;
    }

    int hours(int n, int b, int side) {
        if (!in(n, 1, 24) || !in(b, 0, 20) || !in(side, 0, 3)) return BAD;
        if (hour + n > 999) return NO;
        remember();
        int before = count(3);
        for (int i = 0; i < n; i++) {
            for (Boat boat : boats) {
                if (!boat.ashore && !holds(boat, b)) drag(boat, side);
            }
            hour++;
        }
        return count(3) - before;
    }

    private void drag(Boat b, int side) {
        int[] dx = {0, 1, 0, -1};
        int[] dy = {-1, 0, 1, 0};
        int[][] anchors = b.second == null ? new int[][] {b.first} : new int[][] {b.first, b.second};
        for (int[] a : anchors) {
            if (!in(a[0] + dx[side], 0, depths.size() - 1) || !in(a[1] + dy[side], 0, 19)) b.ashore = true;
        }
        if (b.ashore) return;
        for (int[] a : anchors) {
            a[0] += dx[side];
            a[1] += dy[side];
        }
        b.dragged++;
    }

    int undo() {
        if (past.isEmpty()) return NO;
        State state = past.removeLast();
        hour = state.hour();
        boats = state.boats();
        return past.size();
    }

    int anchor(int s, int anchor, int what) {
        if (noShip(s) || !in(anchor, 0, 1) || !in(what, 0, 2)) return BAD;
        int[] a = boats.get(s).anchor(anchor);
        return a == null ? NONE : a[what];
    }

    int ship(int s, int what) {
        if (noShip(s) || !in(what, 0, 5)) return BAD;
        Boat b = boats.get(s);
        return new int[] {b.weight, b.length, b.area, b.grip, b.ashore ? 1 : 0, b.dragged}[what];
    }

    int hangs(int s, int anchor, int h, int what) {
        if (noShip(s) || !in(anchor, 0, 1) || !in(h, 0, 9999) || !in(what, 0, 5)) return BAD;
        Boat b = boats.get(s);
        if (b.ashore) return NO;
        int[] a = b.anchor(anchor);
        if (a == null) return NONE;
        if (what == 4) return holding(b, a, a[2], h);
        return lie(b, a, a[2], h)[what == 5 ? 4 : what];
    }

    int wind(int s, int b, int what) {
        if (noShip(s) || !in(b, 0, 20) || !in(what, 0, 2)) return BAD;
        Boat boat = boats.get(s);
        if (boat.ashore) return NO;
        if (what == 0) return pull(boat, b);
        if (what == 1) return holds(boat, b) ? 1 : 0;
        return swing(boat, boat.first[2], b);
    }

    int apart(int s, int t, int b) {
        if (noShip(s) || noShip(t) || s == t || !in(b, 0, 20)) return BAD;
        Boat one = boats.get(s);
        return roomsApart(one, one.first[2], boats.get(t), b) ? 1 : 0;
    }

    int fewest(int s, int b) {
        if (noShip(s) || !in(b, 0, 20)) return BAD;
        Boat boat = boats.get(s);
        if (boat.ashore) return NO;
        for (int n = 1; n <= 60; n++) {
            if (holds(boat, n, b)) return n;
        }
        return NONE;
    }

    int tooMuch(int s) {
        if (noShip(s)) return BAD;
        Boat boat = boats.get(s);
        if (boat.ashore) return NO;
        for (int b = 0; b <= 20; b++) {
            if (!holds(boat, b)) return b;
        }
        return NONE;
    }

    int close(int s, int b) {
        if (noShip(s) || !in(b, 0, 20)) return BAD;
        Boat boat = boats.get(s);
        if (boat.ashore) return NO;
        int best = NONE;
        for (int n = 1; n <= 60; n++) {
            boolean fits = holds(boat, n, b);
            for (Boat other : boats) {
                fits = fits && (other == boat || roomsApart(boat, n, other, b));
            }
            if (fits) best = n;
        }
        return best;
    }

    int all(int b, int what) {
        if (!in(b, 0, 20) || !in(what, 0, 1)) return BAD;
        int found = 0;
        for (int i = 0; i < boats.size(); i++) {
            if (what == 0 && holds(boats.get(i), b)) found++;
            for (int j = 0; what == 1 && j < i; j++) {
                if (apart(i, j, b) == 0) found++;
            }
        }
        return found;
    }

    int count(int what) {
        int ashore = 0, second = 0, out = 0;
        for (Boat b : boats) {
            if (b.ashore) ashore++;
            if (b.second != null) second++;
            if (!b.ashore) out += b.first[2] + (b.second == null ? 0 : b.second[2]);
        }
        int[] counts = {depths.size(), boats.size(), hour, ashore, second, out, past.size(), text.length()};
        return in(what, 0, 7) ? counts[what] : BAD;
    }
}
