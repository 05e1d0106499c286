import java.util.ArrayList;
import java.util.List;

/** The boundary cases that promises 32 to 38 (walks) name, sentence by sentence. */
public final class WalksEdgeTest extends Edges {
    private static final String LETTERS = "safSAF";
    private static final int[] NO_TURN = {-1, 3, 4, LOW, HIGH};
    /** No CODES and no DARTS of 5. */
    private static final int[] NO_CODES = {0, 1, -12345, 1234, 123456, 12340, 12346, 12344, 11111, LOW, HIGH};
    private static final int[] NO_DARTS = {0, 6, -1, 7, LOW, HIGH};
    /** n is 5; the tape has a word of eighty letters. */
    private static final Scene WORD = o -> {
        rich(o);
        tape(o, "saSSaFsfAAsfaSffSaas".repeat(2));
    };

    private static int letter(char one, int s, int a) {
        int[] turns = {s, a, faces(s, a)};
        int at = LETTERS.indexOf(one);
        return at < 3 ? turns[at] : undoing(turns[at - 3]);
    }

    private static int word(String word, int n, int s, int a) {
        int p = stays(n);
        for (char one : word.toCharArray()) p = then(p, letter(one, s, a));
        return p;
    }

    private static final String[] WORDS = {"s", "a", "f", "S", "A", "F", "sa", "as", "saf", "FAS", "sS", "Ff", "sasasa", "fffA", "SaFsfA", "aSaSaSaSaSaSaSaSaSaS"};

    private static void walk() {
        promise(32);
        says("Where a DART comes by the tape's first k bytes (1 to 60; empty then): letters s, a, f, and S, A, F for what undoes them, one behind the other;");
        for (String one : WORDS) {
            int p = word(one, 4, 2341, 2134);
            for (int dart = 1; dart <= 4; dart++) {
                map(4, 2341, 2134);
                due("walk from " + dart + " by " + one, walk(dart, one), at(p, dart));
                due("count(10)", x.count(10), 0);
                row("code is as it was", x::code, 2341, 2134);
            }
        }
        map(1, 1, 1);
        due("walk of one dart", walk(1, "safSAF"), 1);
        map(7, 2345671, 2134576);
        for (char one : LETTERS.toCharArray()) {
            int p = letter(one, 2345671, 2134576);
            for (int dart = 1; dart <= 7; dart++) due("walk of seven from " + dart + " by " + one, walk(dart, "" + one), at(p, dart));
            due("made of seven by " + one, made("" + one, 0), p);
        }
        // k 1, k as many as there are, k 60 of 60 and of 120
        for (int[] of : new int[][] {{1, 20}, {19, 20}, {20, 20}, {21, 40}, {40, 40}, {59, 60}, {60, 60}, {60, 80}, {60, 120}}) {
            map(7, 2345671, 1234567);
            tape(x, "s".repeat(of[0]) + "x".repeat(of[1] - of[0]));
            due("count(10)", x.count(10), of[1]);
            due("walk by " + of[0] + " of " + of[1], x.walk(1, of[0]), of[0] % 7 + 1);
            due("count(10)", x.count(10), 0);
            due("walk again", x.walk(1, 1), -1);
        }

        says("a FAULT: -1000 less the place of another byte;");
        for (int sign = 0; sign < 256; sign++) {
            map(4, 2341, 2134);
            boolean letter = LETTERS.indexOf(sign) >= 0;
            int due = letter ? at(letter((char) sign, 2341, 2134), 3) : -1000;
            due("walk by the byte " + sign, walk(3, "" + (char) sign), due);
            due("walk by s and the byte " + sign, walk(3, "s" + (char) sign), letter ? at(letter((char) sign, 2341, 2134), 4) : -1001);
        }
        for (int place = 0; place < 60; place++) {
            fresh();
            tape(x, "s".repeat(place) + " " + "s".repeat(59 - place));
            due("walk with another byte at " + place, x.walk(1, 60), -1000 - place);
            due("count(10)", x.count(10), 0);
        }
        // the first of many; one behind the first k is none
        due("walk by s#a#", walk(1, "s#a#"), -1001);
        tape(fresh(), "sa#");
        due("walk by sa of sa#", x.walk(1, 2), 1);
        scene = o -> {
            rich(o);
            o.walk(1, 1);
            tape(o, "sa#");
        };
        faulted("walk(1,3) of sa#", -1002, o -> o.walk(1, 3));
        faulted("walk(5,20) of sa#", -1002, o -> o.walk(5, 20));

        says("NONE: no such ones, it has not so many (the tape stays).");
        scene = WORD;
        for (int dart : NO_DARTS) refused("walk(" + dart + ",3)", o -> o.walk(dart, 3));
        for (int k : new int[] {0, -1, 61, 80, 81, LOW, HIGH}) refused("walk(1," + k + ")", o -> o.walk(1, k));
        scene = o -> tape(o, "saSSaFsfAAsfaSffSaas");
        refused("walk(1,21) of 20", o -> o.walk(1, 21));
        scene = o -> tape(o, "saSSaFsfAAsfaSffSaas".repeat(2));
        refused("walk(1,41) of 40", o -> o.walk(1, 41));
        scene = o -> draw(o, 3, 231, 213);
        refused("walk(1,1) of none", o -> o.walk(1, 1));
        scene = o -> tape(o, "#");
        refused("walk(0,1) of another byte", o -> o.walk(0, 1));
        refused("walk(1,21) of another byte", o -> o.walk(1, 21));
        map(3, 231, 213);
        tape(x, "s");
        due("walk(4,1)", x.walk(4, 1), -1);
        due("count(10)", x.count(10), 20);
        due("walk(3,1)", x.walk(3, 1), 1);
    }

    private static void made() {
        promise(33);
        says("The PERMUTATION by the tape's first k bytes as a word (as of walk(); empty then), what 0 its CODE, 1 its TYPE, 2 the fewest turns that give it (as of length());");
        for (String one : WORDS) {
            int p = word(one, 4, 2341, 2134);
            map(4, 2341, 2134);
            int fewest = x.length(p);
            due("made by " + one + ", 0", made(one, 0), p);
            due("made by " + one + ", 1", made(one, 1), type(p));
            due("made by " + one + ", 2", made(one, 2), fewest);
            due("count(10)", x.count(10), 0);
            row("code is as it was", x::code, 2341, 2134);
        }
        map(1, 1, 1);
        row("made of one dart", w -> made("safSAF", w), 1, 1, 0);
        map(3, 213, 132);
        due("made by sS, 2", made("sS", 2), 0);
        due("made by s, 2", made("s", 2), 1);
        due("made by F, 2", made("F", 2), 2);
        due("made by sas, 2", made("sas", 2), 3);
        due("made by sasa, 2", made("sasa", 2), 2);
        for (int[] of : new int[][] {{1, 20}, {20, 20}, {21, 40}, {59, 60}, {60, 60}, {60, 80}, {60, 120}}) {
            map(7, 2345671, 1234567);
            tape(x, "s".repeat(of[0]) + "x".repeat(of[1] - of[0]));
            due("made by " + of[0] + " of " + of[1], x.made(of[0], 0), x.power(0, of[0]));
            due("count(10)", x.count(10), 0);
            due("made again", x.made(1, 0), -1);
        }

        says("a FAULT and NONE likewise.");
        for (int sign = 0; sign < 256; sign++) {
            map(4, 2341, 2134);
            boolean letter = LETTERS.indexOf(sign) >= 0;
            due("made by the byte " + sign, made("" + (char) sign, 0), letter ? letter((char) sign, 2341, 2134) : -1000);
        }
        for (int place = 0; place < 60; place++) {
            for (int what = 0; what < 3; what++) {
                fresh();
                tape(x, "s".repeat(place) + "x" + "s".repeat(59 - place));
                due("made with another byte at " + place, x.made(60, what), -1000 - place);
                due("count(10)", x.count(10), 0);
            }
        }
        scene = o -> {
            rich(o);
            o.walk(1, 1);
            tape(o, "sa#");
        };
        for (int what = 0; what < 3; what++) {
            int w = what;
            faulted("made(3," + what + ") of sa#", -1002, o -> o.made(3, w));
        }
        scene = WORD;
        for (int what : new int[] {-1, 3, LOW, HIGH}) refused("made(3," + what + ")", o -> o.made(3, what));
        for (int k : new int[] {0, -1, 61, 80, 81, LOW, HIGH}) {
            refused("made(" + k + ",0)", o -> o.made(k, 0));
            refused("made(" + k + ",2)", o -> o.made(k, 2));
        }
        scene = o -> tape(o, "saSSaFsfAAsfaSffSaas");
        refused("made(21,1) of 20", o -> o.made(21, 1));
        scene = o -> draw(o, 3, 231, 213);
        refused("made(1,0) of none", o -> o.made(1, 0));
        scene = o -> tape(o, "#");
        refused("made(1,3) of another byte", o -> o.made(1, 3));
    }

    private static void power() {
        promise(34);
        says("CODE of s, a, f done k times (0 on);");
        int[][] maps = {{1, 1, 1}, {3, 231, 213}, {4, 2341, 2134}, {6, 231546, 654321}, {7, 2315674, 2145673}, {7, 2345671, 1234567}};
        for (int[] m : maps) {
            int[] turns = {m[1], m[2], faces(m[1], m[2])};
            map(m[0], m[1], m[2]);
            for (int which = 0; which < 3; which++) {
                int p = stays(m[0]);
                for (int k = 0; k <= 14; k++) {
                    due("power(" + which + "," + k + ")", x.power(which, k), p);
                    p = then(p, turns[which]);
                }
                // all orders go into 420
                for (int k : new int[] {419, 420, 421, HIGH, HIGH - 1}) {
                    p = stays(m[0]);
                    for (int i = 0; i < k % 420; i++) p = then(p, turns[which]);
                    due("power(" + which + "," + k + ")", x.power(which, k), p);
                }
            }
            row("code is as it was", x::code, m[1], m[2]);
        }

        says("NONE: no such ones.");
        for (int which : NO_TURN) {
            refused("power(" + which + ",1)", o -> o.power(which, 1));
            refused("power(" + which + ",0)", o -> o.power(which, 0));
        }
        for (int k : new int[] {-1, -2, LOW}) {
            refused("power(0," + k + ")", o -> o.power(0, k));
            refused("power(2," + k + ")", o -> o.power(2, k));
        }
    }

    private static void rooted(int n, int s, int a, int which, int k) {
        int[] turns = {s, a, faces(s, a)};
        List<Integer> roots = new ArrayList<>();
        for (int q : every(n)) {
            int p = q;
            for (int i = 1; i < k; i++) p = then(p, q);
            if (p == turns[which]) roots.add(q);
        }
        map(n, s, a);
        String call = "roots(" + which + "," + k + ",..) of " + s + " " + a;
        due(call + " -1", x.roots(which, k, -1), roots.size());
        for (int i = 0; i < roots.size(); i++) due(call + " " + i, x.roots(which, k, i), roots.get(i));
        due(call + " " + roots.size(), x.roots(which, k, roots.size()), -2);
        row("code is as it was", x::code, s, a);
    }

    private static void roots() {
        promise(35);
        says("PERMUTATIONS (of n) that, done k times (1 to 12), are s, a, f, i NONE: how many; else CODE of the i-th (by CODES; -2: not so many);");
        for (int k = 1; k <= 12; k++) {
            rooted(1, 1, 1, 2, k);
            rooted(3, 231, 213, 0, k);
            rooted(3, 231, 213, 1, k);
            rooted(4, 2143, 1234, 0, k);
            rooted(4, 2143, 1234, 1, k);
            rooted(4, 2341, 2134, 2, k);
        }
        // those of seven by how many times bring all back: 1, 231, 350, 840, 504, 1470, 720; 504 by 10, 420 by 12
        map(7, 1234567, 2345671);
        int[] many = {1, 232, 351, 1072, 505, 2052, 721, 1072, 351, 1240, 1, 3312};
        for (int k = 1; k <= 12; k++) due("roots(0," + k + ",-1)", x.roots(0, k, -1), many[k - 1]);
        row("roots(0,12,..)", i -> x.roots(0, 12, i), 1234567, 1234576, 1234657);
        due("roots(0,12,3311)", x.roots(0, 12, 3311), 7654321);
        due("roots(0,12,3312)", x.roots(0, 12, 3312), -2);
        due("roots(1,7,-1)", x.roots(1, 7, -1), 0);
        due("roots(1,7,0)", x.roots(1, 7, 0), -2);
        due("roots(1,8,0)", x.roots(1, 8, 0), 2345671);
        // n is 5, s a round: its fifth power is none of it
        for (int i : new int[] {1, 2, HIGH}) refused("roots(0,1," + i + ")", -2, o -> o.roots(0, 1, i));
        refused("roots(0,5,0)", -2, o -> o.roots(0, 5, 0));

        says("NONE: no such ones.");
        for (int which : NO_TURN) refused("roots(" + which + ",1,0)", o -> o.roots(which, 1, 0));
        for (int k : new int[] {0, 13, -1, LOW, HIGH}) {
            refused("roots(0," + k + ",0)", o -> o.roots(0, k, 0));
            refused("roots(0," + k + ",-1)", o -> o.roots(0, k, -1));
        }
        for (int i : new int[] {-2, -3, LOW}) refused("roots(0,1," + i + ")", o -> o.roots(0, 1, i));
        refused("roots(3,1,9)", o -> o.roots(3, 1, 9));
        refused("roots(0,13,9)", o -> o.roots(0, 13, 9));
    }

    private static void reckon() {
        promise(36);
        says("Of PERMUTATIONS p, q by CODES, how 0 CODE of p, then q; 1 of what p becomes by RELABELLING q; 2 of what undoes p, then what undoes q, then p, then q; 3 whether p, then q is the same as q, then p (1, 0);");
        for (int n = 1; n <= 3; n++) for (int p : every(n)) for (int q : every(n)) reckoned(n, p, q);
        for (int q : every(4)) reckoned(4, 2341, q);
        reckoned(7, 7654321, 2345671);
        reckoned(7, 2134567, 1243567);
        reckoned(7, 1234567, 7654321);
        // the map is nothing to it
        map(3, 231, 213);
        row("reckon(..,213,132)", how -> x.reckon(how, 213, 132), 312, 321, 231, 0, -1);
        row("code", x::code, 231, 213);

        says("NONE: no such ones.");
        for (int how = 0; how < 4; how++) {
            int h = how;
            for (int code : NO_CODES) {
                refused("reckon(" + how + "," + code + ",13254)", o -> o.reckon(h, code, 13254));
                refused("reckon(" + how + ",23451," + code + ")", o -> o.reckon(h, 23451, code));
            }
        }
        for (int how : new int[] {-1, 4, LOW, HIGH}) refused("reckon(" + how + ",..)", o -> o.reckon(how, 23451, 13254));
    }

    private static void reckoned(int n, int p, int q) {
        fresh().degree(n);
        long undone = then(then(undoing(p), undoing(q)), then(p, q));
        long like = then(p, q) == then(q, p) ? 1 : 0;
        row("reckon(..," + p + "," + q + ")", how -> x.reckon(how, p, q), then(p, q), by(p, q), undone, like, -1);
    }

    private static void way() {
        promise(37);
        says("The fewest turns (s, a, and what undoes them) from a DART to a DART;");
        map(1, 1, 1);
        due("way(1,1)", x.way(1, 1), 0);
        // one after another: 1 2 by s, 2 3 by a, and so on
        map(7, 2143657, 1325476);
        for (int from = 1; from <= 7; from++) {
            for (int to = 1; to <= 7; to++) due("way(" + from + "," + to + ")", x.way(from, to), Math.abs(from - to));
        }
        // a round, both ways
        map(7, 2345671, 1234567);
        row("way(1,..)", i -> x.way(1, i + 1), 0, 1, 2, 3, 3, 2, 1, -1);
        map(7, 1234567, 2345671);
        row("way(7,..)", i -> x.way(7, i + 1), 1, 2, 3, 3, 2, 1, 0, -1);
        // f is no turn: 3 comes to 1 by it
        map(3, 213, 132);
        due("f from 3", x.along(2, 3, 1), 1);
        due("way(3,1)", x.way(3, 1), 2);
        map(4, 2341, 3412);
        row("way(1,..) across", i -> x.way(1, i + 1), 0, 1, 1, 1, -1);

        says("-2: they are in unlike PARTS;");
        scene = o -> draw(o, 7, 2143567, 1235476);
        // PARTS 1 2, 3 4 5, 6 7
        refused("way(1,3)", -2, o -> o.way(1, 3));
        refused("way(2,7)", -2, o -> o.way(2, 7));
        refused("way(7,1)", -2, o -> o.way(7, 1));
        scene = o -> o.degree(7);
        refused("way(1,7)", -2, o -> o.way(1, 7));
        map(7, 1234567, 1234567);
        row("way(4,..)", i -> x.way(4, i), -1, -2, -2, -2, 0, -2, -2, -2, -1);
        map(7, 2345617, 1234567);
        row("way(1,..)", i -> x.way(1, i), -1, 0, 1, 2, 3, 2, 1, -2, -1);

        says("NONE: no such ones.");
        for (int dart : NO_DARTS) {
            refused("way(" + dart + ",1)", o -> o.way(dart, 1));
            refused("way(1," + dart + ")", o -> o.way(1, dart));
            refused("way(" + dart + "," + dart + ")", o -> o.way(dart, dart));
        }
    }

    private static boolean together(int p, int dart, int other) {
        int y = dart;
        for (int i = 0; i < 7; i++) {
            if (y == other) return true;
            y = at(p, y);
        }
        return false;
    }

    private static void meet() {
        promise(38);
        says("DARTS that go together: of the CYCLES of two of s, a, f (which, other) with a DART each: how many DARTS both have;");
        for (int[] m : new int[][] {{1, 1, 1}, {3, 213, 132}, {4, 2143, 2314}, {5, 23154, 21345}, {5, 23451, 12345}}) {
            int n = m[0];
            int[] turns = {m[1], m[2], faces(m[1], m[2])};
            for (int which = 0; which < 3; which++) {
                for (int other = 0; other < 3; other++) {
                    map(n, m[1], m[2]);
                    for (int dart = 1; dart <= n; dart++) {
                        for (int dart2 = 1; dart2 <= n; dart2++) {
                            int both = 0;
                            for (int y = 1; y <= n; y++) if (together(turns[which], dart, y) && together(turns[other], dart2, y)) both++;
                            due("meet(" + which + "," + dart + "," + other + "," + dart2 + ")", x.meet(which, dart, other, dart2), both);
                        }
                    }
                }
            }
        }
        map(7, 2345671, 2345671);
        due("meet of seven", x.meet(0, 1, 1, 7), 7);
        due("meet of seven and f", x.meet(2, 7, 1, 1), 7);
        map(7, 1234567, 2345671);
        due("meet of one", x.meet(0, 7, 1, 1), 1);
        due("meet of none", x.meet(0, 7, 0, 1), 0);

        says("NONE: no such ones.");
        for (int which : NO_TURN) {
            refused("meet(" + which + ",1,0,1)", o -> o.meet(which, 1, 0, 1));
            refused("meet(0,1," + which + ",1)", o -> o.meet(0, 1, which, 1));
        }
        for (int dart : NO_DARTS) {
            refused("meet(0," + dart + ",1,1)", o -> o.meet(0, dart, 1, 1));
            refused("meet(0,1,1," + dart + ")", o -> o.meet(0, 1, 1, dart));
        }
    }

    public static void main(String[] args) {
        walk();
        made();
        power();
        roots();
        reckon();
        way();
        meet();
        end(32, 38);
    }
}
