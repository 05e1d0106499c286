import java.util.ArrayDeque;
import java.util.ArrayList;
import java.util.Arrays;
import java.util.BitSet;
import java.util.HashMap;
import java.util.LinkedHashMap;
import java.util.List;
import java.util.Map;
import java.util.Random;
import java.util.TreeMap;
import java.util.TreeSet;

/**
 * Drawn runs of calls, each answer held against a model that takes the document by its words:
 * permutations as rows, every relabelling tried, every pair of permutations searched, characters by
 * boxes, block systems among all ways to lay the darts in sets.
 */
public final class ModelTest {
    static final int NONE = -1;
    static int wrong = 0;

    // ---- permutations as rows, darts from 0

    static int code(int[] p) {
        int c = 0;
        for (int y : p) c = 10 * c + y + 1;
        return c;
    }

    static int[] read(int code, int n) {
        String t = Integer.toString(code);
        if (t.length() != n) return null;
        int[] p = new int[n];
        TreeSet<Integer> all = new TreeSet<>();
        for (int x = 0; x < n; x++) {
            p[x] = t.charAt(x) - '1';
            if (p[x] < 0 || p[x] >= n || !all.add(p[x])) return null;
        }
        return p;
    }

    static int[] stay(int n) {
        int[] p = new int[n];
        for (int x = 0; x < n; x++) p[x] = x;
        return p;
    }

    static int[] then(int[] p, int[] q) {
        int[] r = new int[p.length];
        for (int x = 0; x < p.length; x++) r[x] = q[p[x]];
        return r;
    }

    static int[] undo(int[] p) {
        int[] r = new int[p.length];
        for (int x = 0; x < p.length; x++) r[p[x]] = x;
        return r;
    }

    static int[] faces(int[] s, int[] a) {
        int[] f = new int[s.length];
        for (int x = 0; x < s.length; x++) f[a[s[x]]] = x;
        return f;
    }

    static int[] by(int[] p, int[] r) {
        int[] q = new int[p.length];
        for (int x = 0; x < p.length; x++) q[r[x]] = r[p[x]];
        return q;
    }

    static int[] times(int[] p, int k) {
        int[] q = stay(p.length);
        for (int i = 0; i < k; i++) q = then(q, p);
        return q;
    }

    /** Cycles by their least darts, each from its least dart on. */
    static List<List<Integer>> cycles(int[] p) {
        List<List<Integer>> all = new ArrayList<>();
        boolean[] told = new boolean[p.length];
        for (int x = 0; x < p.length; x++) {
            if (told[x]) continue;
            List<Integer> c = new ArrayList<>();
            for (int y = x; !told[y]; y = p[y]) {
                told[y] = true;
                c.add(y);
            }
            all.add(c);
        }
        return all;
    }

    static int type(int[] p) {
        List<Integer> sizes = new ArrayList<>();
        for (List<Integer> c : cycles(p)) sizes.add(c.size());
        sizes.sort((x, y) -> y - x);
        int t = 0;
        for (int k : sizes) t = 10 * t + k;
        return t;
    }

    static int order(int[] p) {
        int k = 1;
        for (int[] q = p; !Arrays.equals(q, stay(p.length)); q = then(q, p)) k++;
        return k;
    }

    static final Map<Integer, List<int[]>> EVERY = new HashMap<>();

    static List<int[]> every(int n) {
        return EVERY.computeIfAbsent(n, m -> {
            List<int[]> all = new ArrayList<>();
            grow(new int[m], 0, all);
            return all;
        });
    }

    static void grow(int[] p, int x, List<int[]> all) {
        if (x == p.length) {
            all.add(p.clone());
            return;
        }
        for (int y = 0; y < p.length; y++) {
            boolean free = true;
            for (int i = 0; i < x; i++) if (p[i] == y) free = false;
            if (free) {
                p[x] = y;
                grow(p, x + 1, all);
            }
        }
    }

    // ---- types and characters

    static final Map<Integer, List<Integer>> TYPES = new HashMap<>();

    static List<Integer> types(int n) {
        return TYPES.computeIfAbsent(n, m -> {
            TreeSet<Integer> all = new TreeSet<>();
            for (int[] p : every(m)) all.add(type(p));
            return new ArrayList<>(all.descendingSet());
        });
    }

    static final Map<Integer, Map<Integer, Integer>> SIZES = new HashMap<>();

    static int size(int n, int t) {
        return SIZES.computeIfAbsent(n, m -> {
            Map<Integer, Integer> all = new HashMap<>();
            for (int[] p : every(m)) all.merge(type(p), 1, Integer::sum);
            return all;
        }).get(t);
    }

    static int[] rows(int t) {
        String s = Integer.toString(t);
        int[] r = new int[s.length()];
        for (int i = 0; i < r.length; i++) r[i] = s.charAt(i) - '0';
        return r;
    }

    static int value(int[] p, int[] t) {
        if (t.length == 0) return Arrays.stream(p).sum() == 0 ? 1 : 0;
        int[] rest = Arrays.copyOfRange(t, 1, t.length);
        int sum = 0;
        List<int[]> lefts = new ArrayList<>();
        smaller(p, new int[p.length], 0, t[0], lefts);
        for (int[] left : lefts) {
            int touched = strip(p, left);
            if (touched > 0) sum += (touched % 2 == 1 ? 1 : -1) * value(left, rest);
        }
        return sum;
    }

    static void smaller(int[] p, int[] q, int row, int boxes, List<int[]> all) {
        if (row == p.length) {
            if (boxes == 0) all.add(q.clone());
            return;
        }
        for (int k = 0; k <= p[row]; k++) {
            if (p[row] - k > boxes || row > 0 && k > q[row - 1]) continue;
            q[row] = k;
            smaller(p, q, row + 1, boxes - (p[row] - k), all);
        }
        q[row] = 0;
    }

    /** Rows that the boxes of p outside q touch, if they are a rim strip; else 0. */
    static int strip(int[] p, int[] q) {
        boolean[][] box = new boolean[10][10];
        int many = 0;
        int touched = 0;
        int[] start = null;
        for (int i = 0; i < p.length; i++) {
            if (p[i] > q[i]) touched++;
            for (int k = q[i]; k < p[i]; k++) {
                box[i][k] = true;
                many++;
                start = new int[] {i, k};
            }
        }
        for (int i = 0; i < 9; i++)
            for (int k = 0; k < 9; k++)
                if (box[i][k] && box[i + 1][k] && box[i][k + 1] && box[i + 1][k + 1]) return 0;
        return flood(box, start[0], start[1]) == many ? touched : 0;
    }

    static int flood(boolean[][] box, int i, int k) {
        if (i < 0 || k < 0 || i > 9 || k > 9 || !box[i][k]) return 0;
        box[i][k] = false;
        return 1 + flood(box, i + 1, k) + flood(box, i - 1, k) + flood(box, i, k + 1) + flood(box, i, k - 1);
    }

    // ---- maps

    static int[] part(int[] s, int[] a, int dart) {
        TreeSet<Integer> seen = new TreeSet<>();
        ArrayDeque<Integer> open = new ArrayDeque<>();
        open.add(dart);
        while (!open.isEmpty()) {
            int x = open.poll();
            if (!seen.add(x)) continue;
            open.add(s[x]);
            open.add(a[x]);
            open.add(undo(s)[x]);
            open.add(undo(a)[x]);
        }
        return seen.stream().mapToInt(Integer::intValue).toArray();
    }

    static boolean connected(int[] s, int[] a) {
        return part(s, a, 0).length == s.length;
    }

    static int genus(int[] s, int[] a) {
        int c = cycles(s).size() + cycles(a).size() + cycles(faces(s, a)).size();
        return (s.length + 2 - c) / 2;
    }

    static int[][] canon(int[] s, int[] a) {
        int[][] best = null;
        for (int[] r : every(s.length)) {
            int[] s2 = by(s, r);
            if (best != null && code(s2) > code(best[0])) continue;
            int[] a2 = by(a, r);
            if (best == null || code(s2) < code(best[0]) || code(a2) < code(best[1])) best = new int[][] {s2, a2};
        }
        return best;
    }

    static int auts(int[] s, int[] a) {
        int k = 0;
        for (int[] r : every(s.length)) if (Arrays.equals(by(s, r), s) && Arrays.equals(by(a, r), a)) k++;
        return k;
    }

    /** The group's permutations by codes, with the fewest turns. */
    static Map<Integer, Integer> group(int[] s, int[] a) {
        Map<Integer, Integer> turns = new LinkedHashMap<>();
        ArrayDeque<int[]> open = new ArrayDeque<>();
        open.add(stay(s.length));
        turns.put(code(stay(s.length)), 0);
        int[][] ways = {s, a, undo(s), undo(a)};
        while (!open.isEmpty()) {
            int[] p = open.poll();
            for (int[] w : ways) {
                int[] q = then(w, p);
                if (turns.putIfAbsent(code(q), turns.get(code(p)) + 1) == null) open.add(q);
            }
        }
        return turns;
    }

    static int[][] operated(int what, int[] s, int[] a) {
        switch (what) {
            case 0: return new int[][] {a, s};
            case 1: return new int[][] {undo(s), undo(a)};
            case 2: return new int[][] {a, faces(s, a)};
            default: return new int[][] {faces(s, a), a};
        }
    }

    static long pair(int[][] m) {
        return code(m[0]) * 100000000L + code(m[1]);
    }

    static int symmetries(int[] s, int[] a) {
        long own = pair(canon(s, a));
        int bits = 0;
        for (int w = 0; w < 4; w++) {
            int[][] m = operated(w, s, a);
            if (pair(canon(m[0], m[1])) == own) bits |= 1 << w;
        }
        return bits;
    }

    static TreeSet<Long> family(int[] s, int[] a) {
        TreeSet<Long> all = new TreeSet<>();
        ArrayDeque<int[][]> open = new ArrayDeque<>();
        open.add(canon(s, a));
        while (!open.isEmpty()) {
            int[][] m = open.poll();
            if (!all.add(pair(m))) continue;
            for (int w = 0; w < 4; w++) {
                int[][] o = operated(w, m[0], m[1]);
                open.add(canon(o[0], o[1]));
            }
        }
        return all;
    }

    /** All ways to lay n darts in sets of d. */
    static void layings(int n, int d, int left, List<Integer> sets, List<List<Integer>> all) {
        if (left == 0) {
            all.add(new ArrayList<>(sets));
            return;
        }
        int low = left & -left;
        for (int m = 1; m < 1 << n; m++) {
            if ((m & low) == 0 || (m & ~left) != 0 || Integer.bitCount(m) != d) continue;
            sets.add(m);
            layings(n, d, left & ~m, sets, all);
            sets.remove(sets.size() - 1);
        }
    }

    static int image(int[] p, int set) {
        int m = 0;
        for (int x = 0; x < p.length; x++) if ((set >> x & 1) == 1) m |= 1 << p[x];
        return m;
    }

    static List<List<Integer>> systems(int[] s, int[] a) {
        List<List<Integer>> good = new ArrayList<>();
        int n = s.length;
        if (!connected(s, a)) return good;
        for (int d = 2; d < n; d++) {
            if (n % d != 0) continue;
            List<List<Integer>> all = new ArrayList<>();
            layings(n, d, (1 << n) - 1, new ArrayList<>(), all);
            for (List<Integer> sets : all) {
                boolean ok = true;
                for (int m : sets) if (!sets.contains(image(s, m)) || !sets.contains(image(a, m))) ok = false;
                if (ok) good.add(sets);
            }
        }
        good.sort((x, y) -> {
            int d = Integer.bitCount(x.get(0)) - Integer.bitCount(y.get(0));
            return d != 0 ? d : x.get(0) - y.get(0);
        });
        return good;
    }

    static int quotient(int[] p, List<Integer> sets) {
        int c = 0;
        for (int m : sets) c = 10 * c + sets.indexOf(image(p, m)) + 1;
        return c;
    }

    // ---- all pairs of n, searched once

    static final class Kin {
        int s;
        int a;
        int auts;
        int order = -1;
    }

    static final class World {
        final Map<String, long[]> maps = new HashMap<>();
        final Map<String, TreeMap<Long, Kin>> classes = new HashMap<>();

        long[] of(int t1, int t2, int t3) {
            return maps.getOrDefault(t1 + " " + t2 + " " + t3, new long[2]);
        }

        List<Kin> listed(int t1, int t2, int t3) {
            TreeMap<Long, Kin> l = classes.get(t1 + " " + t2 + " " + t3);
            return l == null ? new ArrayList<>() : new ArrayList<>(l.values());
        }
    }

    static final Map<Integer, World> WORLDS = new HashMap<>();

    static World world(int n) {
        return WORLDS.computeIfAbsent(n, ModelTest::search);
    }

    static World search(int n) {
        World w = new World();
        List<int[]> all = every(n);
        int m = all.size();
        Map<Integer, Integer> at = new HashMap<>();
        int[] kind = new int[m];
        for (int i = 0; i < m; i++) {
            at.put(code(all.get(i)), i);
            kind[i] = type(all.get(i));
        }
        BitSet seen = new BitSet(m * m);
        short[][] moved = new short[m][m];
        for (int r = 0; r < m; r++) for (int p = 0; p < m; p++) moved[r][p] = (short) (int) at.get(code(by(all.get(p), all.get(r))));
        for (int i = 0; i < m; i++) {
            for (int k = 0; k < m; k++) {
                if (seen.get(i * m + k)) continue;
                int[] s = all.get(i);
                int[] a = all.get(k);
                long like = 0;
                int auts = 0;
                long least = Long.MAX_VALUE;
                for (int r = 0; r < m; r++) {
                    int place = moved[r][i] * m + moved[r][k];
                    if (!seen.get(place)) {
                        like++;
                        seen.set(place);
                    }
                    if (place == i * m + k) auts++;
                    least = Math.min(least, place);
                }
                String key = kind[i] + " " + kind[k] + " " + type(faces(s, a));
                long[] sum = w.maps.computeIfAbsent(key, x -> new long[2]);
                sum[0] += like;
                if (!connected(s, a)) continue;
                sum[1] += like;
                Kin c = new Kin();
                c.s = code(all.get((int) (least / m)));
                c.a = code(all.get((int) (least % m)));
                c.auts = auts;
                w.classes.computeIfAbsent(key, x -> new TreeMap<>()).put(least, c);
            }
        }
        return w;
    }

    // ---- the object

    static final class State {
        int n = 3;
        int[] s = stay(3);
        int[] a = stay(3);
        List<int[]> album = new ArrayList<>();

        State copy() {
            State c = new State();
            c.n = n;
            c.s = s;
            c.a = a;
            c.album = new ArrayList<>(album);
            return c;
        }
    }

    State now = new State();
    final List<State> kept = new ArrayList<>();
    final List<Integer> tape = new ArrayList<>();

    int[] turn(int which) {
        return which == 0 ? now.s : which == 1 ? now.a : which == 2 ? faces(now.s, now.a) : null;
    }

    boolean dart(int x) {
        return x >= 1 && x <= now.n;
    }

    boolean kind(int t) {
        return types(now.n).contains(t);
    }

    List<Integer> bytes(int k) {
        if (k < 1 || k > 60 || k > tape.size()) return null;
        List<Integer> b = new ArrayList<>(tape.subList(0, k));
        tape.clear();
        return b;
    }

    int feed(int... four) {
        if (tape.size() + 20 > 120) return NONE;
        for (int v : four) for (int i = 3; i >= 0; i--) tape.add(v >> 8 * i & 255);
        return tape.size();
    }

    int degree(int n) {
        if (n < 1 || n > 7) return NONE;
        int was = now.n;
        now.n = n;
        now.s = stay(n);
        now.a = stay(n);
        return was;
    }

    int put(int which, int[] p) {
        int was = code(turn(which));
        if (which == 0) now.s = p; else now.a = p;
        return was;
    }

    int set(int which, int code) {
        int[] p = read(code, now.n);
        return which < 0 || which > 1 || p == null ? NONE : put(which, p);
    }

    int text(int which, int k) {
        if (which < 0 || which > 1) return NONE;
        List<Integer> b = bytes(k);
        if (b == null) return NONE;
        StringBuilder t = new StringBuilder();
        for (int c : b) t.append((char) c);
        int[] p = new int[now.n];
        int r = parse(t.toString(), p);
        if (r < 0) return r;
        put(which, p);
        return code(p);
    }

    /** By descent: blanks, then e or cycles. */
    int parse(String t, int[] p) {
        int[] all = stay(now.n);
        System.arraycopy(all, 0, p, 0, now.n);
        boolean[] told = new boolean[now.n];
        int i = 0;
        while (i < t.length() && t.charAt(i) == ' ') i++;
        if (i == t.length()) return -1000 - i;
        if (t.charAt(i) == 'e') {
            i++;
            while (i < t.length() && t.charAt(i) == ' ') i++;
            return i == t.length() ? 0 : -1000 - i;
        }
        while (i < t.length()) {
            if (t.charAt(i) != '(') return -1000 - i;
            i++;
            List<Integer> c = new ArrayList<>();
            boolean gap = true;
            while (true) {
                if (i == t.length()) return -1000 - i;
                char b = t.charAt(i);
                if (b == ' ') gap = true;
                else if (b == ')') {
                    if (c.isEmpty()) return -1000 - i;
                    i++;
                    break;
                } else if (b < '0' || b > '9' || !gap) return -1000 - i;
                else {
                    int x = b - '1';
                    if (x < 0 || x >= now.n) return -2000 - i;
                    if (told[x]) return -3000 - i;
                    told[x] = true;
                    c.add(x);
                    gap = false;
                }
                i++;
            }
            for (int k = 0; k < c.size(); k++) p[c.get(k)] = c.get((k + 1) % c.size());
            while (i < t.length() && t.charAt(i) == ' ') i++;
        }
        return 0;
    }

    int drawn(int seed) {
        int x = seed & 65535;
        for (int w = 0; w < 2; w++) {
            int[] p = stay(now.n);
            for (int i = now.n; i >= 2; i--) {
                x = (int) ((25173L * x + 13849) % 65536);
                int j = x / 4 % i + 1;
                int keep = p[i - 1];
                p[i - 1] = p[j - 1];
                p[j - 1] = keep;
            }
            put(w, p);
        }
        return code(now.s);
    }

    int operate(int what) {
        if (what < 0 || what > 3) return NONE;
        int[][] m = operated(what, now.s, now.a);
        now.s = m[0];
        now.a = m[1];
        return code(now.s);
    }

    int tidy() {
        int[][] m = canon(now.s, now.a);
        now.s = m[0];
        now.a = m[1];
        return code(now.s);
    }

    int code(int which) {
        return turn(which) == null ? NONE : code(turn(which));
    }

    int type(int which) {
        return turn(which) == null ? NONE : type(turn(which));
    }

    int cycles(int which, int what) {
        int[] p = turn(which);
        if (p == null || what < 0 || what > 3) return NONE;
        List<List<Integer>> c = cycles(p);
        int stay = 0;
        int even = 0;
        for (List<Integer> one : c) {
            if (one.size() == 1) stay++;
            if (one.size() % 2 == 0) even++;
        }
        return what == 0 ? c.size() : what == 1 ? stay : what == 2 ? order(p) : even % 2;
    }

    int along(int which, int dart, int i) {
        int[] p = turn(which);
        if (p == null || !dart(dart) || i < 0) return NONE;
        for (List<Integer> c : cycles(p))
            if (c.contains(dart - 1)) return i >= c.size() ? -2 : c.get((c.indexOf(dart - 1) + i) % c.size()) + 1;
        return 99;
    }

    int count(int what) {
        boolean one = connected(now.s, now.a);
        switch (what) {
            case 0: return now.n;
            case 1:
                TreeSet<Integer> least = new TreeSet<>();
                for (int x = 0; x < now.n; x++) least.add(part(now.s, now.a, x)[0]);
                return least.size();
            case 2: return one ? genus(now.s, now.a) : -2;
            case 3: return auts(now.s, now.a);
            case 4: return group(now.s, now.a).size();
            case 5: return systems(now.s, now.a).size();
            case 6: return one && systems(now.s, now.a).isEmpty() ? 1 : 0;
            case 7: return symmetries(now.s, now.a);
            case 8: return one ? siblings() : -2;
            case 9: return now.album.size();
            case 10: return tape.size();
            case 11: return kept.size();
            default: return NONE;
        }
    }

    int order(Kin c) {
        if (c.order < 0) c.order = group(read(c.s, now.n), read(c.a, now.n)).size();
        return c.order;
    }

    int siblings() {
        int own = group(now.s, now.a).size();
        int auts = auts(now.s, now.a);
        int k = 0;
        for (Kin c : world(now.n).listed(type(0), type(1), type(2))) if (c.auts == auts && order(c) == own) k++;
        return k;
    }

    int part(int dart, int what) {
        if (!dart(dart) || what < 0 || what > 2) return NONE;
        int[] d = part(now.s, now.a, dart - 1);
        if (what < 2) return what == 0 ? d[0] + 1 : d.length;
        int[] s = new int[d.length];
        int[] a = new int[d.length];
        for (int i = 0; i < d.length; i++) {
            s[i] = Arrays.binarySearch(d, now.s[d[i]]);
            a[i] = Arrays.binarySearch(d, now.a[d[i]]);
        }
        return genus(s, a);
    }

    int canon(int which) {
        if (which < 0 || which > 2) return NONE;
        int[][] m = canon(now.s, now.a);
        return which == 2 ? code(faces(m[0], m[1])) : code(m[which]);
    }

    int point(int which, int i, int what) {
        int[] p = turn(which);
        if (p == null || i < 0 || what < 0 || what > 1) return NONE;
        List<List<Integer>> c = cycles(p);
        return i >= c.size() ? -2 : what == 0 ? c.get(i).get(0) + 1 : c.get(i).size();
    }

    int same(int s, int a) {
        int r = label(s, a);
        return r == NONE ? NONE : r == -2 ? 0 : 1;
    }

    int label(int s, int a) {
        int[] s2 = read(s, now.n);
        int[] a2 = read(a, now.n);
        if (s2 == null || a2 == null) return NONE;
        for (int[] r : every(now.n)) if (Arrays.equals(by(now.s, r), s2) && Arrays.equals(by(now.a, r), a2)) return code(r);
        return -2;
    }

    int ofType(int t) {
        if (!kind(t)) return NONE;
        int k = 0;
        for (int c : group(now.s, now.a).keySet()) if (type(read(c, now.n)) == t) k++;
        return k;
    }

    int elements(int what) {
        if (what < 0) return NONE;
        int k = 0;
        for (int c : group(now.s, now.a).keySet()) {
            int[] p = read(c, now.n);
            boolean centre = Arrays.equals(then(p, now.s), then(now.s, p)) && Arrays.equals(then(p, now.a), then(now.a, p));
            if (what == 0 ? centre : order(p) == what) k++;
        }
        return k;
    }

    int length(int code) {
        return read(code, now.n) == null ? NONE : group(now.s, now.a).getOrDefault(code, -2);
    }

    int block(int i, int what) {
        if (i < 0 || what < 0 || what > 3) return NONE;
        List<List<Integer>> all = systems(now.s, now.a);
        if (i >= all.size()) return -2;
        List<Integer> b = all.get(i);
        return what == 0 ? Integer.bitCount(b.get(0)) : what == 1 ? b.get(0) : quotient(what == 2 ? now.s : now.a, b);
    }

    static int pick(List<Integer> l, int i) {
        return i == NONE ? l.size() : i >= l.size() ? -2 : l.get(i);
    }

    int kinds(int i) {
        return i < NONE ? NONE : pick(types(now.n), i);
    }

    int size(int t) {
        return kind(t) ? size(now.n, t) : NONE;
    }

    int character(int p, int t) {
        return kind(p) && kind(t) ? value(rows(p), rows(t)) : -1000000;
    }

    long triples(int t1, int t2, int t3, int what) {
        if (!kind(t1) || !kind(t2) || !kind(t3) || what < 0 || what > 2) return NONE;
        return world(now.n).of(t1, t2, t3)[what == 1 ? 1 : 0];
    }

    int classes(int t1, int t2, int t3, int i, int what) {
        if (!kind(t1) || !kind(t2) || !kind(t3) || i < NONE || what < 0 || what > 4) return NONE;
        List<Kin> l = world(now.n).listed(t1, t2, t3);
        if (i == NONE) return l.size();
        if (i >= l.size()) return -2;
        Kin c = l.get(i);
        switch (what) {
            case 0: return c.s;
            case 1: return c.a;
            case 2: return c.auts;
            case 3: return order(c);
            default: return symmetries(read(c.s, now.n), read(c.a, now.n));
        }
    }

    long mass(int t1, int t2, int t3, int what) {
        if (!kind(t1) || !kind(t2) || !kind(t3) || what < 0 || what > 1) return NONE;
        long top = 0;
        long bottom = 1;
        for (Kin c : world(now.n).listed(t1, t2, t3)) {
            top = top * c.auts + bottom;
            bottom *= c.auts;
            long g = java.math.BigInteger.valueOf(top).gcd(java.math.BigInteger.valueOf(bottom)).longValue();
            top /= g;
            bottom /= g;
        }
        return what == 0 ? top : bottom;
    }

    long genera(int t1, int t2, int genus) {
        if (!kind(t1) || !kind(t2) || genus < 0 || genus > 3) return NONE;
        long sum = 0;
        for (int t3 : types(now.n)) {
            List<Kin> l = world(now.n).listed(t1, t2, t3);
            if (!l.isEmpty() && genus(read(l.get(0).s, now.n), read(l.get(0).a, now.n)) == genus) sum += world(now.n).of(t1, t2, t3)[1];
        }
        return sum;
    }

    int thirds(int t1, int t2, int i) {
        if (!kind(t1) || !kind(t2) || i < NONE) return NONE;
        List<Integer> l = new ArrayList<>();
        for (int t3 : types(now.n)) if (world(now.n).of(t1, t2, t3)[0] > 0) l.add(t3);
        return pick(l, i);
    }

    int family(int i, int what) {
        if (i < NONE || what < 0 || what > 1) return NONE;
        List<Integer> l = new ArrayList<>();
        for (long m : family(now.s, now.a)) l.add((int) (what == 0 ? m / 100000000L : m % 100000000L));
        return pick(l, i);
    }

    int walk(int dart, int k) {
        if (!dart(dart)) return NONE;
        List<Integer> b = bytes(k);
        if (b == null) return NONE;
        int x = dart - 1;
        for (int i = 0; i < b.size(); i++) {
            int at = "safSAF".indexOf(b.get(i));
            if (at < 0) return -1000 - i;
            x = at < 3 ? turn(at)[x] : undo(turn(at - 3))[x];
        }
        return x + 1;
    }

    int made(int k, int what) {
        if (what < 0 || what > 2) return NONE;
        List<Integer> b = bytes(k);
        if (b == null) return NONE;
        int[] p = stay(now.n);
        for (int i = 0; i < b.size(); i++) {
            int at = "safSAF".indexOf(b.get(i));
            if (at < 0) return -1000 - i;
            p = then(p, at < 3 ? turn(at) : undo(turn(at - 3)));
        }
        return what == 0 ? code(p) : what == 1 ? type(p) : group(now.s, now.a).get(code(p));
    }

    int power(int which, int k) {
        int[] p = turn(which);
        return p == null || k < 0 ? NONE : code(times(p, k % 420));
    }

    int roots(int which, int k, int i) {
        int[] p = turn(which);
        if (p == null || k < 1 || k > 12 || i < NONE) return NONE;
        List<Integer> l = new ArrayList<>();
        for (int[] q : every(now.n)) if (Arrays.equals(times(q, k), p)) l.add(code(q));
        return pick(l, i);
    }

    int reckon(int how, int code, int code2) {
        int[] p = read(code, now.n);
        int[] q = read(code2, now.n);
        if (p == null || q == null) return NONE;
        switch (how) {
            case 0: return code(then(p, q));
            case 1: return code(then(then(undo(q), p), q));
            case 2: return code(then(then(undo(p), undo(q)), then(p, q)));
            case 3: return Arrays.equals(then(p, q), then(q, p)) ? 1 : 0;
            default: return NONE;
        }
    }

    int way(int from, int to) {
        if (!dart(from) || !dart(to)) return NONE;
        int[] far = new int[now.n];
        Arrays.fill(far, -2);
        far[from - 1] = 0;
        ArrayDeque<Integer> open = new ArrayDeque<>();
        open.add(from - 1);
        while (!open.isEmpty()) {
            int x = open.poll();
            for (int y : new int[] {now.s[x], now.a[x], undo(now.s)[x], undo(now.a)[x]}) {
                if (far[y] == -2) {
                    far[y] = far[x] + 1;
                    open.add(y);
                }
            }
        }
        return far[to - 1];
    }

    int meet(int which, int dart, int other, int dart2) {
        if (turn(which) == null || turn(other) == null || !dart(dart) || !dart(dart2)) return NONE;
        int k = 0;
        for (List<Integer> c : cycles(turn(which)))
            for (List<Integer> d : cycles(turn(other)))
                if (c.contains(dart - 1) && d.contains(dart2 - 1)) for (int x : c) if (d.contains(x)) k++;
        return k;
    }

    int paste() {
        if (!connected(now.s, now.a)) return -2;
        int[][] m = canon(now.s, now.a);
        for (int i = 0; i < now.album.size(); i++) {
            int[] p = now.album.get(i);
            if (p[0] == now.n && p[1] == code(m[0]) && p[2] == code(m[1])) return i;
        }
        if (now.album.size() == 12) return -3;
        now.album.add(new int[] {now.n, code(m[0]), code(m[1]), genus(m[0], m[1])});
        return now.album.size() - 1;
    }

    int piece(int i, int what) {
        return i < 0 || i >= now.album.size() || what < 0 || what > 3 ? NONE : now.album.get(i)[what];
    }

    int take(int i) {
        if (i < 0 || i >= now.album.size()) return NONE;
        int was = now.n;
        int[] p = now.album.get(i);
        now.n = p[0];
        now.s = read(p[1], now.n);
        now.a = read(p[2], now.n);
        return was;
    }

    int keep() {
        if (kept.size() == 8) return NONE;
        kept.add(now.copy());
        return kept.size();
    }

    int undo() {
        if (kept.isEmpty()) return NONE;
        now = kept.remove(kept.size() - 1);
        return kept.size();
    }

    // ---- runs

    /** No object is used for more calls: what later ones answer is free. */
    static final int MOST_CALLS = 512;
    DrawnMaps x = new DrawnMaps();
    int calls;
    final Random lots;
    final StringBuilder told = new StringBuilder();
    final int most;

    ModelTest(long seed, int most) {
        lots = new Random(seed);
        this.most = most;
    }

    int pick(int... of) {
        return of[lots.nextInt(of.length)];
    }

    int near(int low, int high) {
        int k = lots.nextInt(60);
        if (k == 0) return Integer.MIN_VALUE;
        if (k == 1) return Integer.MAX_VALUE;
        return k < 6 ? pick(low - 1, high + 1, low, high) : low + lots.nextInt(high - low + 1);
    }

    int drawCode() {
        if (lots.nextInt(20) == 0) return pick(0, -1, 11, 122, 12345678, 10, 321 + lots.nextInt(9), lots.nextInt());
        if (lots.nextInt(4) == 0) return code(turn(lots.nextInt(3)));
        List<int[]> all = every(now.n);
        return code(all.get(lots.nextInt(all.size())));
    }

    int drawType() {
        if (lots.nextInt(25) == 0) return pick(0, -3, 12, 8, 30, 70, 1111, 43, 2110, 34, lots.nextInt());
        if (lots.nextInt(3) == 0) return type(lots.nextInt(3));
        return types(now.n).get(lots.nextInt(types(now.n).size()));
    }

    String drawText() {
        StringBuilder t = new StringBuilder();
        if (lots.nextInt(3) == 0) {
            for (int i = lots.nextInt(12); i >= 0; i--) t.append("(() 1234567089 eE)  ".charAt(lots.nextInt(20)));
            return t.toString();
        }
        if (lots.nextInt(8) == 0) return pick(0, 1) == 0 ? " e  " : "e";
        for (List<Integer> c : cycles(every(now.n).get(lots.nextInt(every(now.n).size())))) {
            if (c.size() == 1 && lots.nextInt(2) == 0) continue;
            t.append(" ".repeat(lots.nextInt(2))).append('(');
            for (int y : c) t.append(" ".repeat(1 + lots.nextInt(2))).append(y + 1);
            t.append(" ".repeat(lots.nextInt(2))).append(')');
        }
        if (lots.nextInt(5) == 0 && t.length() > 0) t.setCharAt(lots.nextInt(t.length()), "( )1589e\t".charAt(lots.nextInt(9)));
        return t.toString();
    }

    String drawWord() {
        StringBuilder t = new StringBuilder();
        for (int i = lots.nextInt(14); i >= 0; i--) t.append(lots.nextInt(40) == 0 ? (char) lots.nextInt(256) : "safSAF".charAt(lots.nextInt(6)));
        return t.toString();
    }

    /** Feeds a text and answers how long it is, mostly. */
    int told(String text) {
        if (text.length() > 60) text = text.substring(0, 60);
        int fed = 0;
        do {
            int[] v = new int[5];
            for (int i = 0; i < 20; i++) v[i / 4] = v[i / 4] << 8 | (fed + i < text.length() ? text.charAt(fed + i) : 'a' + i);
            due("feed(" + Arrays.toString(v) + ")", x.feed(v[0], v[1], v[2], v[3], v[4]), feed(v));
            fed += 20;
        } while (fed < text.length());
        return lots.nextInt(15) == 0 ? near(1, 60) : text.length();
    }

    /** A new object of n, if the old one has no room for so many calls. */
    void room(int n, int more) {
        if (calls + more <= MOST_CALLS) return;
        x = new DrawnMaps();
        x.degree(n);
        degree(n);
        calls = 1;
    }

    void due(String call, long got, long want) {
        calls++;
        told.append("  ").append(call).append(" = ").append(got).append('\n');
        if (got == want) return;
        wrong++;
        if (wrong < 4) System.out.println(told + "  DUE WAS " + want);
    }

    void tell() {
        int p = near(0, 1);
        int q;
        int r;
        switch (lots.nextInt(9)) {
            case 0:
                q = lots.nextInt(3) == 0 ? near(1, 7) : 1 + lots.nextInt(most);
                if (q > most && q <= 7) q = most;
                due("degree(" + q + ")", x.degree(q), degree(q));
                break;
            case 1:
            case 2:
                q = drawCode();
                due("set(" + p + "," + q + ")", x.set(p, q), set(p, q));
                break;
            case 3:
                q = told(drawText());
                due("text(" + p + "," + q + ")", x.text(p, q), text(p, q));
                break;
            case 4:
            case 5:
                q = lots.nextInt();
                due("drawn(" + q + ")", x.drawn(q), drawn(q));
                break;
            case 6:
                q = near(0, 3);
                due("operate(" + q + ")", x.operate(q), operate(q));
                break;
            case 7:
                due("tidy()", x.tidy(), tidy());
                break;
            default:
                r = near(0, now.album.size());
                due("take(" + r + ")", x.take(r), take(r));
        }
    }

    void album() {
        switch (lots.nextInt(6)) {
            case 0:
            case 1:
                due("paste()", x.paste(), paste());
                break;
            case 2:
            case 3:
                int i = near(0, now.album.size());
                int w = near(0, 3);
                due("piece(" + i + "," + w + ")", x.piece(i, w), piece(i, w));
                break;
            case 4:
                due("keep()", x.keep(), keep());
                break;
            default:
                due("undo()", x.undo(), undo());
        }
    }

    void look() {
        int w = near(0, 2);
        int d = near(1, now.n);
        int i = near(0, now.n);
        int v;
        switch (lots.nextInt(16)) {
            case 0: due("code(" + w + ")", x.code(w), code(w)); break;
            case 1: due("type(" + w + ")", x.type(w), type(w)); break;
            case 2: v = near(0, 3); due("cycles(" + w + "," + v + ")", x.cycles(w, v), cycles(w, v)); break;
            case 3: due("along(" + w + "," + d + "," + i + ")", x.along(w, d, i), along(w, d, i)); break;
            case 4:
            case 5:
            case 6:
            case 7: v = near(0, 11); due("count(" + v + ")", x.count(v), count(v)); break;
            case 8: v = near(0, 2); due("part(" + d + "," + v + ")", x.part(d, v), part(d, v)); break;
            case 9: due("canon(" + w + ")", x.canon(w), canon(w)); break;
            case 10: v = near(0, 1); due("point(" + w + "," + i + "," + v + ")", x.point(w, i, v), point(w, i, v)); break;
            case 11: pairs(); break;
            case 12: v = near(1, now.n); due("way(" + d + "," + v + ")", x.way(d, v), way(d, v)); break;
            case 13:
                v = near(1, now.n);
                int o = near(0, 2);
                due("meet(" + w + "," + d + "," + o + "," + v + ")", x.meet(w, d, o, v), meet(w, d, o, v));
                break;
            case 14: v = near(-1, 6); int z = near(0, 1); due("family(" + v + "," + z + ")", x.family(v, z), family(v, z)); break;
            default: v = near(0, 500); due("power(" + w + "," + v + ")", x.power(w, v), power(w, v));
        }
    }

    void pairs() {
        int s = drawCode();
        int a = drawCode();
        if (lots.nextInt(2) == 0) {
            int[] r = every(now.n).get(lots.nextInt(every(now.n).size()));
            s = code(by(now.s, r));
            a = code(by(now.a, r));
        }
        due("same(" + s + "," + a + ")", x.same(s, a), same(s, a));
        due("label(" + s + "," + a + ")", x.label(s, a), label(s, a));
    }

    void reckon() {
        int v;
        int c = drawCode();
        int t = drawType();
        int w = near(0, 2);
        switch (lots.nextInt(9)) {
            case 0: due("ofType(" + t + ")", x.ofType(t), ofType(t)); break;
            case 1: v = near(0, 7); due("elements(" + v + ")", x.elements(v), elements(v)); break;
            case 2: due("length(" + c + ")", x.length(c), length(c)); break;
            case 3:
            case 4:
                v = near(0, 2);
                int u = near(0, 3);
                due("block(" + v + "," + u + ")", x.block(v, u), block(v, u));
                break;
            case 5:
                v = near(1, 12);
                int i = near(-1, 5);
                due("roots(" + w + "," + v + "," + i + ")", x.roots(w, v, i), roots(w, v, i));
                break;
            case 6:
                v = near(0, 3);
                int e = drawCode();
                due("reckon(" + v + "," + c + "," + e + ")", x.reckon(v, c, e), reckon(v, c, e));
                break;
            case 7:
                v = near(1, now.n);
                int k = told(drawWord());
                due("walk(" + v + "," + k + ")", x.walk(v, k), walk(v, k));
                break;
            default:
                v = near(0, 2);
                int m = told(drawWord());
                due("made(" + m + "," + v + ")", x.made(m, v), made(m, v));
        }
    }

    void passports() {
        int t = drawType();
        int u = drawType();
        int v = drawType();
        int w = near(0, 4);
        int i = near(-1, 5);
        switch (lots.nextInt(9)) {
            case 0: due("kinds(" + w + ")", x.kinds(w), kinds(w)); break;
            case 1: due("size(" + t + ")", x.size(t), size(t)); break;
            case 2: due("character(" + t + "," + u + ")", x.character(t, u), character(t, u)); break;
            case 3: due("triples(" + t + "," + u + "," + v + "," + w + ")", x.triples(t, u, v, w), triples(t, u, v, w)); break;
            case 4:
            case 5:
                if (lots.nextInt(2) == 0) {
                    t = type(0);
                    u = type(1);
                    v = type(2);
                }
                due("classes(" + t + "," + u + "," + v + "," + i + "," + w + ")", x.classes(t, u, v, i, w), classes(t, u, v, i, w));
                break;
            case 6: due("mass(" + t + "," + u + "," + v + "," + w + ")", x.mass(t, u, v, w), mass(t, u, v, w)); break;
            case 7: due("genera(" + t + "," + u + "," + w + ")", x.genera(t, u, w), genera(t, u, w)); break;
            default: due("thirds(" + t + "," + u + "," + i + ")", x.thirds(t, u, i), thirds(t, u, i));
        }
    }

    void play() {
        // a turn takes at most nine calls
        for (int i = 0; calls + 9 <= MOST_CALLS; i++) {
            switch (lots.nextInt(11)) {
                case 0:
                case 1: tell(); break;
                case 2: album(); break;
                case 3:
                case 4:
                case 5: look(); break;
                case 6:
                case 7:
                case 8: reckon(); break;
                default: passports();
            }
            if (i % 10 == 0) {
                due("code(0)", x.code(0), code(0));
                due("code(1)", x.code(1), code(1));
                due("count(10)", x.count(10), count(10));
            }
        }
    }

    /** Every passport of n: search, characters and classes say the same as the model. */
    static void passports(int n) {
        ModelTest m = new ModelTest(0, n);
        m.due("degree(" + n + ")", m.x.degree(n), m.degree(n));
        List<Integer> all = types(n);
        for (int t : all) {
            for (int u : all) {
                m.told.setLength(0);
                m.due("character " + t + " " + u, m.x.character(t, u), m.character(t, u));
                for (int v : all) {
                    m.room(n, 10 + 3 * (1 + m.classes(t, u, v, NONE, 0)));
                    String p = n + ": " + t + " " + u + " " + v;
                    for (int w = 0; w < 3; w++) m.due("triples " + p + " " + w, m.x.triples(t, u, v, w), m.triples(t, u, v, w));
                    int many = m.classes(t, u, v, NONE, 0);
                    m.due("classes " + p, m.x.classes(t, u, v, NONE, 0), many);
                    for (int i = 0; i <= many; i++)
                        for (int w = 0; w < 3; w++) m.due("class " + p + " " + i + " " + w, m.x.classes(t, u, v, i, w), m.classes(t, u, v, i, w));
                    for (int w = 0; w < 2; w++) m.due("mass " + p + " " + w, m.x.mass(t, u, v, w), m.mass(t, u, v, w));
                }
            }
        }
    }

    /** Every map of n, by what is dear to reckon. */
    static void maps(int n, int step) {
        ModelTest m = new ModelTest(0, n);
        m.due("degree(" + n + ")", m.x.degree(n), m.degree(n));
        int at = 0;
        for (int[] s : every(n)) {
            for (int[] a : every(n)) {
                at++;
                if (at % step != 0) continue;
                m.told.setLength(0);
                m.room(n, 30);
                m.due("set s " + code(s), m.x.set(0, code(s)), m.set(0, code(s)));
                m.due("set a " + code(a), m.x.set(1, code(a)), m.set(1, code(a)));
                for (int w = 0; w < 9; w++) m.due("count " + w, m.x.count(w), m.count(w));
                for (int w = 0; w < 3; w++) m.due("canon " + w, m.x.canon(w), m.canon(w));
                m.due("family", m.x.family(NONE, 0), m.family(NONE, 0));
                for (int i = 0; i < 3; i++) for (int w = 0; w < 4; w++) m.due("block " + i + " " + w, m.x.block(i, w), m.block(i, w));
            }
        }
    }

    public static void main(String[] args) {
        for (int n = 1; n <= 6; n++) passports(n);
        for (int n = 1; n <= 4; n++) maps(n, 1);
        maps(5, 97);
        maps(6, 7919);
        for (int seed = 0; seed < 600; seed++) new ModelTest(seed, 5).play();
        for (int seed = 0; seed < 60; seed++) new ModelTest(seed, 6).play();
        passports(7);
        maps(7, 99991);
        for (int seed = 0; seed < 60; seed++) new ModelTest(seed, 7).play();
        System.out.println(wrong == 0 ? "all answers are as due" : wrong + " answers are not as due");
        if (wrong != 0) System.exit(1);
    }
}
