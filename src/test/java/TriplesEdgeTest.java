import java.util.ArrayList;
import java.util.List;
import java.util.TreeMap;
import java.util.TreeSet;

/** The boundary cases that promises 23 to 31 (triples) name, sentence by sentence. */
public final class TriplesEdgeTest extends Edges {
    /** TYPES of 1 to 7, by numbers falling. */
    private static final int[][] TYPES = {
        {}, {1}, {11, 2}, {111, 21, 3}, {1111, 211, 31, 22, 4}, {11111, 2111, 311, 221, 41, 32, 5},
        {111111, 21111, 3111, 2211, 411, 321, 222, 51, 42, 33, 6},
        {1111111, 211111, 31111, 22111, 4111, 3211, 2221, 511, 421, 331, 322, 61, 52, 43, 7}
    };
    /** No TYPES of 5: of other n, digits that rise, a nought, below nought. */
    private static final int[] NO_TYPES = {0, 4, 6, 15, 23, 14, 50, 51, 42, 1111, 111111, -5, -41, 500, 410, 140, 1112, 112, 33, 9, LOW, HIGH};

    private static void of(int n) {
        fresh().degree(n);
    }

    // ---- types

    private static void kinds() {
        promise(23);
        says("How many TYPES n has; i-th TYPE (by numbers falling), i NONE: how many;");
        for (int n = 1; n <= 7; n++) {
            of(n);
            int[] due = TYPES[n];
            due("kinds(-1) of " + n, x.kinds(-1), due.length);
            for (int i = 0; i < due.length; i++) {
                due("kinds(" + i + ") of " + n, x.kinds(i), due[i]);
                holds("they fall", i == 0 || due[i] < due[i - 1]);
            }
        }
        // every PERMUTATION has one of them
        for (int n = 1; n <= 5; n++) {
            TreeSet<Integer> all = new TreeSet<>();
            for (int p : every(n)) all.add(type(p));
            of(n);
            due("kinds(-1) of " + n, x.kinds(-1), all.size());
            int i = 0;
            for (int t : all.descendingSet()) due("kinds of " + n, x.kinds(i++), t);
        }

        says("-2: not so many;");
        for (int n = 1; n <= 7; n++) {
            int degree = n;
            int many = TYPES[n].length;
            scene = o -> o.degree(degree);
            refused("kinds(" + many + ") of " + n, -2, o -> o.kinds(many));
            refused("kinds(HIGH) of " + n, -2, o -> o.kinds(HIGH));
        }

        says("NONE: no such i.");
        for (int i : new int[] {-2, -3, LOW}) refused("kinds(" + i + ")", o -> o.kinds(i));
    }

    private static void size() {
        promise(24);
        says("How many PERMUTATIONS have a TYPE;");
        int[][] due = {
            {}, {1}, {1, 1}, {1, 3, 2}, {1, 6, 8, 3, 6}, {1, 10, 20, 15, 30, 20, 24}, {1, 15, 40, 45, 90, 120, 15, 144, 90, 40, 120},
            {1, 21, 70, 105, 210, 420, 105, 504, 630, 280, 210, 840, 504, 420, 720}
        };
        int all = 1;
        for (int n = 1; n <= 7; n++) {
            of(n);
            all *= n;
            int sum = 0;
            for (int i = 0; i < due[n].length; i++) {
                due("size(" + TYPES[n][i] + ")", x.size(TYPES[n][i]), due[n][i]);
                sum += x.size(TYPES[n][i]);
            }
            due("all PERMUTATIONS of " + n, sum, all);
        }

        says("NONE: no such TYPE of n.");
        for (int type : NO_TYPES) refused("size(" + type + ")", o -> o.size(type));
        for (int n = 1; n <= 7; n++) {
            of(n);
            due("size(" + (n - 1) + ") of " + n, x.size(n - 1), -1);
            due("size(" + (n + 1) + ") of " + n, x.size(n + 1), -1);
            due("size of 1 .. 1, one more", x.size(TYPES[n][0] * 10 + 1), -1);
            due("size of 1 .. 1, one less", x.size(TYPES[n][0] / 10), -1);
        }
    }

    private static void character() {
        promise(25);
        says("VALUE of the CHARACTER of TYPE p at TYPE t;");
        for (int n = 1; n <= 7; n++) {
            of(n);
            for (int t : TYPES[n]) {
                // a row: always 1; a column: by what is odd
                due("character(" + n + "," + t + ")", x.character(n, t), 1);
                int odd = n - Integer.toString(t).length() & 1;
                due("character(1 .. 1," + t + ")", x.character(TYPES[n][0], t), odd == 0 ? 1 : -1);
            }
        }
        of(7);
        int[] widths = {1, 6, 15, 14, 20, 35, 14, 15, 35, 21, 21, 6, 14, 14, 1};
        for (int i = 0; i < 15; i++) due("character(" + TYPES[7][i] + ",1111111)", x.character(TYPES[7][i], 1111111), widths[i]);
        // p and t are not one for the other
        due("character(61,1111111)", x.character(61, 1111111), 6);
        due("character(1111111,61)", x.character(1111111, 61), -1);
        due("character(61,7)", x.character(61, 7), -1);
        due("character(7,61)", x.character(7, 61), 1);
        of(4);
        due("character(22,22)", x.character(22, 22), 2);
        due("character(22,4)", x.character(22, 4), 0);
        due("character(31,22)", x.character(31, 22), -1);

        says("-1000000: no such TYPES of n.");
        for (int type : NO_TYPES) {
            refused("character(" + type + ",5)", -1000000, o -> o.character(type, 5));
            refused("character(5," + type + ")", -1000000, o -> o.character(5, type));
            refused("character(" + type + "," + type + ")", -1000000, o -> o.character(type, type));
        }
    }

    // ---- triples, by what the words say of all pairs

    private static boolean connected(int n, int s, int a) {
        int reached = 1 << 1;
        for (int i = 0; i < n; i++) {
            for (int dart = 1; dart <= n; dart++) if ((reached >> dart & 1) == 1) reached |= 1 << at(s, dart) | 1 << at(a, dart);
        }
        return reached == (1 << n + 1) - 2;
    }

    /** Of each PASSPORT: MAPS, CONNECTED ones, and the CLASSES of these with their MAPS. */
    private static final class Passport {
        int maps;
        int connected;
        final TreeMap<Long, Integer> classes = new TreeMap<>();
    }

    private static TreeMap<String, Passport> passports(int n) {
        TreeMap<String, Passport> all = new TreeMap<>();
        for (int s : every(n)) {
            for (int a : every(n)) {
                Passport one = all.computeIfAbsent(type(s) + " " + type(a) + " " + type(faces(s, a)), k -> new Passport());
                one.maps++;
                if (!connected(n, s, a)) continue;
                one.connected++;
                int[] least = canon(n, s, a);
                one.classes.merge(least[0] * 100000L + least[1], 1, Integer::sum);
            }
        }
        return all;
    }

    /** What triples(), classes(), mass(), genera() and thirds() say of all of n. */
    private static void search(int n, int all, boolean maps) {
        TreeMap<String, Passport> found = passports(n);
        for (int t1 : TYPES[n]) {
            for (int t2 : TYPES[n]) {
                List<Integer> thirds = new ArrayList<>();
                long[] genera = new long[4];
                for (int t3 : TYPES[n]) {
                    Passport one = found.getOrDefault(t1 + " " + t2 + " " + t3, new Passport());
                    if (one.maps > 0) thirds.add(t3);
                    int rings = (t1 + "" + t2 + t3).length();
                    if (one.connected > 0) genera[(n + 2 - rings) / 2] += one.connected;
                    of(n);
                    String of = "(" + t1 + "," + t2 + "," + t3 + ",..)";
                    if (maps) row("triples" + of, w -> x.triples(t1, t2, t3, w), one.maps, one.connected, one.maps, -1);
                    else classes(of, t1, t2, t3, all, one);
                }
                of(n);
                if (!maps) continue;
                row("genera(" + t1 + "," + t2 + ",..)", g -> x.genera(t1, t2, g), genera[0], genera[1], genera[2], genera[3], -1);
                due("thirds(" + t1 + "," + t2 + ",-1)", x.thirds(t1, t2, -1), thirds.size());
                for (int i = 0; i < thirds.size(); i++) due("thirds(" + t1 + "," + t2 + "," + i + ")", x.thirds(t1, t2, i), thirds.get(i));
                due("thirds(" + t1 + "," + t2 + "," + thirds.size() + ")", x.thirds(t1, t2, thirds.size()), -2);
            }
        }
    }

    private static void classes(String of, int t1, int t2, int t3, int all, Passport one) {
        due("classes" + of + " -1", x.classes(t1, t2, t3, -1, 0), one.classes.size());
        int i = 0;
        long top = 0;
        for (long key : one.classes.keySet()) {
            int k = i++;
            int auts = all / one.classes.get(key);
            row("classes" + of + " " + k, w -> x.classes(t1, t2, t3, k, w), key / 100000, key % 100000, auts);
            top += all / auts;
        }
        due("classes" + of + " " + i, x.classes(t1, t2, t3, i, 0), -2);
        long common = 1;
        for (int d = 2; d <= all; d++) if (top % d == 0 && all % d == 0) common = d;
        row("mass" + of, w -> x.mass(t1, t2, t3, w), top / common, all / common, -1);
    }

    private static void triples() {
        promise(26);
        says("TRIPLES, by search (what 0), of CONNECTED MAPS alone (1), by CHARACTERS (2);");
        search(1, 1, true);
        search(2, 2, true);
        search(3, 6, true);
        search(4, 24, true);
        of(7);
        row("triples(22111,331,7,..)", w -> x.triples(22111, 331, 7, w), 10080, 10080, 10080, -1);
        row("triples(7,7,7,..)", w -> x.triples(7, 7, 7, w), 129600, 129600, 129600, -1);
        // none, for what is odd; none that is CONNECTED; one that stays
        row("triples(211111,7,7,..)", w -> x.triples(211111, 7, 7, w), 0, 0, 0, -1);
        row("triples(1111111,61,61,..)", w -> x.triples(1111111, 61, 61, w), 840, 0, 840, -1);
        row("triples(1111111,1111111,1111111,..)", w -> x.triples(1111111, 1111111, 1111111, w), 1, 0, 1, -1);
        row("triples(1111111,7,7,..)", w -> x.triples(1111111, 7, 7, w), 720, 720, 720, -1);
        // one after another on one object: one TYPE unlike the last, and the first again
        of(5);
        int[][] after = {{5, 5, 5, 192}, {11111, 5, 5, 24}, {5, 11111, 5, 24}, {5, 5, 11111, 24}, {5, 5, 5, 192}, {2111, 5, 5, 0}, {5, 5, 5, 192}};
        for (int[] one : after) {
            for (int what = 0; what < 3; what++) due("triples behind others", x.triples(one[0], one[1], one[2], what), one[3]);
        }
        x.degree(3);
        row("triples of another n", w -> x.triples(3, 3, 3, w), 2, 2, 2, -1);
        x.degree(5);
        row("triples of the first n", w -> x.triples(5, 5, 5, w), 192, 192, 192, -1);
        of(7);
        int sum = 0;
        for (int t3 : TYPES[7]) {
            long maps = x.triples(61, 61, t3, 0);
            due("triples(61,61," + t3 + ",2)", x.triples(61, 61, t3, 2), maps);
            sum += maps;
        }
        due("all of 61 and 61", sum, 840 * 840);

        says("NONE: no such ones.");
        for (int type : NO_TYPES) {
            refused("triples(" + type + ",5,5,0)", o -> o.triples(type, 5, 5, 0));
            refused("triples(5," + type + ",5,1)", o -> o.triples(5, type, 5, 1));
            refused("triples(5,5," + type + ",2)", o -> o.triples(5, 5, type, 2));
        }
        for (int what : new int[] {-1, 3, LOW, HIGH}) refused("triples(5,5,5," + what + ")", o -> o.triples(5, 5, 5, what));
    }

    private static void listed() {
        promise(27);
        says("CLASSES, i NONE: how many; of the i-th what 0 CODE of s, 1 of a (of CANON), 2 AUTS, 3 GROUP's PERMUTATIONS, 4 SYMMETRIC ones as bits;");
        search(1, 1, false);
        search(2, 2, false);
        search(3, 6, false);
        search(4, 24, false);
        of(5);
        row("AUTS", i -> x.classes(5, 5, 5, i, 2), 5, 1, 5, 5, -2);
        row("GROUPS", i -> x.classes(5, 5, 5, i, 3), 5, 60, 5, 5, -2);
        of(7);
        row("class 0", w -> x.classes(22111, 331, 7, 0, w), 1235476, 2451637, 1, 168, 0, -1);
        row("class 1", w -> x.classes(22111, 331, 7, 1, w), 1235476, 2461357, 1, 168, 0, -1);
        row("the one class", w -> x.classes(7, 1111111, 7, 0, w), 2345671, 1234567, 7, 7, 10, -1);
        for (int what = 0; what < 5; what++) due("how many, what " + what, x.classes(22111, 331, 7, -1, what), 2);
        // one after another on one object: one TYPE unlike the last, and the first again
        of(5);
        int[][] after = {
            {5, 5, 5, 4, 23451}, {11111, 5, 5, 1, 23451}, {5, 11111, 5, 1, 12345}, {5, 5, 11111, 1, 51234}, {5, 5, 5, 4, 23451}, {5, 11111, 5, 1, 12345},
            {41, 41, 5, 3, 0}, {5, 41, 41, 3, 0}, {41, 5, 41, 3, 0}, {41, 41, 41, 0, 0}, {5, 11111, 5, 1, 12345}
        };
        for (int[] one : after) {
            String of = "(" + one[0] + "," + one[1] + "," + one[2] + ",..) behind others";
            due("classes" + of, x.classes(one[0], one[1], one[2], -1, 0), one[3]);
            if (one[4] > 0) due("class 0" + of, x.classes(one[0], one[1], one[2], 0, 1), one[4]);
        }
        // each is what it says of a map of its own
        of(5);
        int many = x.classes(32, 32, 5, -1, 0);
        for (int i = 0; i < many; i++) {
            x.set(0, x.classes(32, 32, 5, i, 0));
            x.set(1, x.classes(32, 32, 5, i, 1));
            due("canon(1) of class " + i, x.canon(1), x.code(1));
            due("AUTS of class " + i, x.classes(32, 32, 5, i, 2), x.count(3));
            due("GROUP of class " + i, x.classes(32, 32, 5, i, 3), x.count(4));
            due("SYMMETRIC of class " + i, x.classes(32, 32, 5, i, 4), x.count(7));
        }

        says("-2: not so many;");
        // four of 5, 5, 5; none of all that stay; none for what is odd
        for (int i : new int[] {4, 5, HIGH}) {
            for (int what = 0; what < 5; what++) {
                int w = what;
                refused("classes(5,5,5," + i + "," + what + ")", -2, o -> o.classes(5, 5, 5, i, w));
            }
        }
        refused("classes(11111,11111,11111,0,0)", -2, o -> o.classes(11111, 11111, 11111, 0, 0));
        refused("classes(2111,5,5,0,4)", -2, o -> o.classes(2111, 5, 5, 0, 4));
        of(5);
        due("classes(5,5,5,3,0)", x.classes(5, 5, 5, 3, 0), 23451);
        due("classes(11111,..)", x.classes(11111, 11111, 11111, -1, 0), 0);
        of(7);
        due("most classes", x.classes(61, 61, 7, -1, 0), 40);
        due("the last of most", x.classes(61, 61, 7, 39, 0), 1345672);
        due("behind the last", x.classes(61, 61, 7, 40, 0), -2);

        says("NONE: no such ones.");
        for (int type : NO_TYPES) {
            refused("classes(" + type + ",5,5,0,0)", o -> o.classes(type, 5, 5, 0, 0));
            refused("classes(5," + type + ",5,-1,0)", o -> o.classes(5, type, 5, -1, 0));
            refused("classes(5,5," + type + ",9,0)", o -> o.classes(5, 5, type, 9, 0));
        }
        for (int i : new int[] {-2, -3, LOW}) refused("classes(5,5,5," + i + ",0)", o -> o.classes(5, 5, 5, i, 0));
        for (int what : new int[] {-1, 5, LOW, HIGH}) {
            refused("classes(5,5,5,0," + what + ")", o -> o.classes(5, 5, 5, 0, what));
            refused("classes(5,5,5,4," + what + ")", o -> o.classes(5, 5, 5, 4, what));
        }
    }

    private static void mass() {
        promise(28);
        says("The sum over CLASSES of 1 through AUTS, as a fraction in lowest terms, what 0 top, 1 bottom;");
        of(1);
        row("mass(1,1,1,..)", w -> x.mass(1, 1, 1, w), 1, 1, -1);
        of(3);
        row("mass(3,3,3,..)", w -> x.mass(3, 3, 3, w), 1, 3, -1);
        row("mass(21,21,3,..)", w -> x.mass(21, 21, 3, w), 1, 1, -1);
        // without CLASSES nothing, in lowest terms
        row("mass(21,21,111,..)", w -> x.mass(21, 21, 111, w), 0, 1, -1);
        of(4);
        row("mass(4,1111,4,..)", w -> x.mass(4, 1111, 4, w), 1, 4, -1);
        of(5);
        // 1 and three fifths
        row("mass(5,5,5,..)", w -> x.mass(5, 5, 5, w), 8, 5, -1);
        row("mass(41,41,5,..)", w -> x.mass(41, 41, 5, w), 3, 1, -1);
        of(6);
        // 1, a half and 1
        row("mass(2211,6,6,..)", w -> x.mass(2211, 6, 6, w), 5, 2, -1);
        of(7);
        row("mass(22111,331,7,..)", w -> x.mass(22111, 331, 7, w), 2, 1, -1);
        row("mass(7,7,7,..)", w -> x.mass(7, 7, 7, w), 180, 7, -1);
        row("mass(7,1111111,7,..)", w -> x.mass(7, 1111111, 7, w), 1, 7, -1);
        row("mass(61,61,7,..)", w -> x.mass(61, 61, 7, w), 40, 1, -1);
        row("mass(211111,7,7,..)", w -> x.mass(211111, 7, 7, w), 0, 1, -1);

        says("NONE: no such ones.");
        for (int type : NO_TYPES) {
            refused("mass(" + type + ",5,5,0)", o -> o.mass(type, 5, 5, 0));
            refused("mass(5," + type + ",5,1)", o -> o.mass(5, type, 5, 1));
            refused("mass(5,5," + type + ",0)", o -> o.mass(5, 5, type, 0));
        }
        for (int what : new int[] {-1, 2, LOW, HIGH}) refused("mass(5,5,5," + what + ")", o -> o.mass(5, 5, 5, what));
    }

    private static void genera() {
        promise(29);
        says("CONNECTED MAPS with s and a of two TYPES and a GENUS (0 to 3), how many;");
        of(1);
        row("genera(1,1,..)", g -> x.genera(1, 1, g), 1, 0, 0, 0, -1);
        of(2);
        row("genera(11,11,..)", g -> x.genera(11, 11, g), 0, 0, 0, 0, -1);
        row("genera(2,11,..)", g -> x.genera(2, 11, g), 1, 0, 0, 0, -1);
        row("genera(2,2,..)", g -> x.genera(2, 2, g), 1, 0, 0, 0, -1);
        of(3);
        row("genera(3,3,..)", g -> x.genera(3, 3, g), 2, 2, 0, 0, -1);
        row("genera(21,21,..)", g -> x.genera(21, 21, g), 6, 0, 0, 0, -1);
        row("genera(21,111,..)", g -> x.genera(21, 111, g), 0, 0, 0, 0, -1);
        row("genera(111,3,..)", g -> x.genera(111, 3, g), 2, 0, 0, 0, -1);
        of(7);
        row("genera(7,7,..)", g -> x.genera(7, 7, g), 720, 720 * 70, 720 * 469, 720 * 180, -1);
        row("genera(1111111,1111111,..)", g -> x.genera(1111111, 1111111, g), 0, 0, 0, 0, -1);

        says("NONE: no such ones.");
        for (int type : NO_TYPES) {
            refused("genera(" + type + ",5,0)", o -> o.genera(type, 5, 0));
            refused("genera(5," + type + ",0)", o -> o.genera(5, type, 0));
        }
        for (int genus : new int[] {-1, 4, LOW, HIGH}) refused("genera(5,5," + genus + ")", o -> o.genera(5, 5, genus));
    }

    private static void thirds() {
        promise(30);
        says("TYPES t3 for which there are TRIPLES of two TYPES and t3, i NONE: how many; else the i-th (by numbers falling; -2: not so many);");
        of(1);
        row("thirds(1,1,..)", i -> x.thirds(1, 1, i - 1), 1, 1, -2);
        of(3);
        row("thirds(21,21,..)", i -> x.thirds(21, 21, i - 1), 2, 111, 3, -2, -2);
        row("thirds(111,111,..)", i -> x.thirds(111, 111, i - 1), 1, 111, -2);
        row("thirds(21,3,..)", i -> x.thirds(21, 3, i - 1), 1, 21, -2);
        of(4);
        row("thirds(211,211,..)", i -> x.thirds(211, 211, i - 1), 3, 1111, 31, 22, -2);
        of(7);
        // two rounds make all that is even; what stays makes but the other, though it is not CONNECTED
        row("thirds(7,7,..)", i -> x.thirds(7, 7, i - 1), 8, 1111111, 31111, 22111, 511, 421, 331, 322, 7, -2);
        row("thirds(1111111,61,..)", i -> x.thirds(1111111, 61, i - 1), 1, 61, -2);
        for (int i : new int[] {3, 4, HIGH}) {
            scene = o -> o.degree(4);
            refused("thirds(211,211," + i + ")", -2, o -> o.thirds(211, 211, i));
        }

        says("NONE: no such ones.");
        for (int type : NO_TYPES) {
            refused("thirds(" + type + ",5,0)", o -> o.thirds(type, 5, 0));
            refused("thirds(5," + type + ",-1)", o -> o.thirds(5, type, -1));
            refused("thirds(5," + type + ",99)", o -> o.thirds(5, type, 99));
        }
        for (int i : new int[] {-2, -3, LOW}) refused("thirds(5,5," + i + ")", o -> o.thirds(5, 5, i));
    }

    // ---- families

    private static TreeSet<Long> family(int n, int s, int a) {
        TreeSet<Long> all = new TreeSet<>();
        List<int[]> open = new ArrayList<>(List.of(canon(n, s, a)));
        while (!open.isEmpty()) {
            int[] m = open.remove(open.size() - 1);
            if (!all.add(m[0] * 100000000L + m[1])) continue;
            int f = faces(m[0], m[1]);
            int[][] behind = {{m[1], m[0]}, {undoing(m[0]), undoing(m[1])}, {m[1], f}, {f, m[1]}};
            for (int[] one : behind) open.add(canon(n, one[0], one[1]));
        }
        return all;
    }

    private static void related(int n, int s, int a) {
        TreeSet<Long> all = family(n, s, a);
        map(n, s, a);
        due("family(-1,0) of " + s + " " + a, x.family(-1, 0), all.size());
        due("family(-1,1) of " + s + " " + a, x.family(-1, 1), all.size());
        int i = 0;
        for (long one : all) {
            due("family(" + i + ",0) of " + s + " " + a, x.family(i, 0), one / 100000000L);
            due("family(" + i + ",1) of " + s + " " + a, x.family(i, 1), one % 100000000L);
            i++;
        }
        due("family(" + i + ",0) of " + s + " " + a, x.family(i, 0), -2);
        row("code is as it was", x::code, s, a);
    }

    private static void families() {
        promise(31);
        says("CLASSES that come of this MAP (its own, too) by OPERATIONS, one behind the other, as often as one likes, i NONE: how many; else of the i-th (by CANON as CLASSES are) CODE of s (what 0), of a (1) of CANON;");
        map(1, 1, 1);
        due("family of one dart", x.family(-1, 0), 1);
        row("family(..,0)", i -> x.family(i, 0), 1, -2);
        map(2, 21, 12);
        row("family(..,0)", i -> x.family(i, 0), 12, 21, 21, -2);
        row("family(..,1)", i -> x.family(i, 1), 21, 12, 21, -2);
        // not CONNECTED
        map(4, 2134, 1243);
        row("family(..,0)", i -> x.family(i, 0), 1243, 1243, 2143, -2);
        row("family(..,1)", i -> x.family(i, 1), 2134, 2143, 1243, -2);
        for (int n = 1; n <= 3; n++) for (int s : every(n)) for (int a : every(n)) related(n, s, a);
        for (int s : List.of(2341, 1342, 2143)) for (int a : every(4)) related(4, s, a);
        // a round of seven with what stays, with what undoes it
        map(7, 7123456, 1234567);
        row("family(..,0)", i -> x.family(i, 0), 1234567, 2345671, 2345671, -2);
        row("family(..,1)", i -> x.family(i, 1), 2345671, 1234567, 7123456, -2);
        // one after another on one object: more, fewer, of another n
        map(2, 21, 12);
        due("family of three", x.family(-1, 0), 3);
        draw(x, 1, 1, 1);
        due("family of one behind it", x.family(-1, 0), 1);
        due("family(0,0) behind it", x.family(0, 0), 1);
        draw(x, 3, 213, 132);
        row("family(..,0) behind it", i -> x.family(i, 0), 132, 132, 231, -2);
        row("family(..,1) behind it", i -> x.family(i, 1), 213, 231, 132, -2);
        draw(x, 3, 123, 123);
        row("family(..,0) behind it", i -> x.family(i, 0), 123, -2);
        // two, as COLOURS, TURN and FACES bring it to itself or to its mirrored; twelve, the most
        related(5, 14253, 41352);
        related(6, 235146, 513642);
        map(7, 1235476, 2451637);
        due("family of twelve", x.family(-1, 0), 12);
        due("family(11,0) is there", x.family(11, 0) > 0 ? 1 : 0, 1);
        due("family(12,0)", x.family(12, 0), -2);

        says("-2: not so many;");
        scene = o -> draw(o, 2, 21, 12);
        for (int i : new int[] {3, 4, HIGH}) {
            refused("family(" + i + ",0)", -2, o -> o.family(i, 0));
            refused("family(" + i + ",1)", -2, o -> o.family(i, 1));
        }
        scene = o -> draw(o, 1, 1, 1);
        refused("family(1,0)", -2, o -> o.family(1, 0));

        says("NONE: no such ones.");
        for (int i : new int[] {-2, -3, LOW}) refused("family(" + i + ",0)", o -> o.family(i, 0));
        for (int what : new int[] {-1, 2, LOW, HIGH}) {
            refused("family(0," + what + ")", o -> o.family(0, what));
            refused("family(12," + what + ")", o -> o.family(12, what));
        }
    }

    public static void main(String[] args) {
        kinds();
        size();
        character();
        triples();
        listed();
        mass();
        genera();
        thirds();
        families();
        end(23, 31);
    }
}
