import java.util.List;

/** The boundary cases that the document's "Terms" name, sentence by sentence. */
public final class TermsEdgeTest extends Edges {
    private static void calls() {
        passage("An object is used", "## The public face");
        says("An object is used for at most 512 calls after it has been made; what later calls answer is free.");
        fresh();
        for (int i = 1; i <= 5; i++) x.feed(0x73617361, 0, 0, 0, 0);
        for (int i = 6; i <= 505; i++) x.operate(i % 4);
        int s = x.code(0);
        int a = x.code(1);
        due("call 508: set", x.set(0, 312), s);
        due("call 509: set", x.set(1, 213), a);
        due("call 510: feed", x.feed(0, 0, 0, 0, 0), 120);
        due("call 511: paste", x.paste(), 0);
        // s: 1 3 2 round; s, then a: 1 to 3, 2 to 2, 3 to 1
        due("call 512: walk", x.walk(1, 2), 3);
    }

    private static void darts() {
        passage("DARTS 1 to n", "Ahead of the calls `degree`");
        says("DARTS 1 to n (n 1 to 7; 3 at first).");
        due("count(0) at first", fresh().count(0), 3);
        for (int n = 1; n <= 7; n++) {
            due("degree(" + n + ")", x.degree(n), n == 1 ? 3 : n - 1);
            due("count(0)", x.count(0), n);
            due("dart 0 of " + n, x.along(0, 0, 0), -1);
            due("dart 1 of " + n, x.along(0, 1, 0), 1);
            due("dart n of " + n, x.along(0, n, 0), n);
            due("dart n and 1 of " + n, x.along(0, n + 1, 0), -1);
        }
        for (int n : new int[] {0, 8, -1, LOW, HIGH}) refused("degree(" + n + ")", o -> o.degree(n));
    }

    private static void codes() {
        says("A PERMUTATION p has a CODE: the decimal digits p(1) p(2) .. p(n).");
        int back = 0;
        for (int n = 1, ten = 1; n <= 7; n++, ten *= 10) {
            back = n * ten + back;
            fresh().degree(n);
            due("set(0," + back + ")", x.set(0, back), stays(n));
            for (int dart = 1; dart <= n; dart++) due("along(0," + dart + ",1)", x.along(0, dart, 1) == -2 ? dart : x.along(0, dart, 1), n + 1 - dart);
            due("code(0)", x.code(0), back);
            int degree = n;
            scene = o -> draw(o, degree, stays(degree), stays(degree));
            // a digit fewer, one more, nought, one behind n, one twice, one below nought
            int stay = stays(n);
            int[] bad = {stay / 10, stay * 10 + n + 1, stay * 10, stay - n, stay + 1, n == 1 ? 11 : stay - 1, -stay, 0, LOW, HIGH};
            for (int code : bad) refused("set(1," + code + ") of " + n, o -> o.set(1, code));
        }
    }

    private static void maps() {
        says("A MAP is two PERMUTATIONS: s (round BLACK points), a (round WHITE ones), both as they stand at first (each DART stays).");
        row("code at first", fresh()::code, 123, 123, 123, -1);
        x.set(0, 231);
        row("code, s set", x::code, 231, 123, 312, -1);
        x.set(1, 213);
        row("code, a set", x::code, 231, 213, 132, -1);

        says("f (round FACES) is that one by which s, then a, then f, one behind the other, bring each DART back.");
        for (int n = 1; n <= 3; n++) {
            for (int s : every(n)) {
                for (int a : every(n)) {
                    map(n, s, a);
                    for (int dart = 1; dart <= n; dart++) due("saf of " + s + " " + a, at(x.code(2), at(a, at(s, dart))), dart);
                }
            }
        }
    }

    private static void types() {
        says("CYCLES of a PERMUTATION: DARTS that come to one another by it; TYPE: how many each CYCLE has, the most first, as decimal digits.");
        int[][] due = {
            {1, 1, 1, 1}, {2, 12, 2, 11}, {2, 21, 1, 2}, {5, 21453, 2, 32}, {5, 23154, 2, 32}, {7, 1234567, 7, 1111111},
            {7, 2134567, 6, 211111}, {7, 2345617, 2, 61}, {7, 1345672, 2, 61}, {7, 2345671, 1, 7}, {7, 7654321, 4, 2221}
        };
        for (int[] one : due) {
            map(one[0], one[1], stays(one[0]));
            due("cycles(0,0) of " + one[1], x.cycles(0, 0), one[2]);
            due("type(0) of " + one[1], x.type(0), one[3]);
        }

        says("PASSPORT: TYPES of s, a, f.");
        map(3, 213, 132);
        row("type", x::type, 21, 21, 3, -1);
        due("triples(21,21,3)", x.triples(21, 21, 3, 0), 6);
        due("triples(21,21,111)", x.triples(21, 21, 111, 0), 3);
        due("triples(21,21,21)", x.triples(21, 21, 21, 0), 0);
        due("triples(21,3,21)", x.triples(21, 3, 21, 0), 6);
        due("triples(3,21,21)", x.triples(3, 21, 21, 0), 6);
        due("triples(3,111,3)", x.triples(3, 111, 3, 0), 2);
    }

    private static void parts() {
        says("PARTS: DARTS that come to one another by s and a; CONNECTED: just one.");
        // n, s, a, PARTS, GENUS (-2: not CONNECTED)
        int[][] due = {
            {1, 1, 1, 1, 0}, {2, 12, 12, 2, -2}, {2, 21, 12, 1, 0}, {2, 12, 21, 1, 0}, {3, 213, 123, 2, -2},
            {3, 123, 132, 2, -2}, {3, 213, 132, 1, 0}, {7, 1234567, 1234567, 7, -2}, {7, 2143657, 1325467, 2, -2},
            {7, 2143657, 1325476, 1, 0}, {7, 2143567, 1325476, 2, -2}, {7, 2345671, 1234567, 1, 0}
        };
        for (int[] one : due) {
            map(one[0], one[1], one[2]);
            due("count(1) of " + one[1] + " " + one[2], x.count(1), one[3]);
            due("count(2) of " + one[1] + " " + one[2], x.count(2), one[4]);
            due("paste() of " + one[1] + " " + one[2], x.paste(), one[3] == 1 ? 0 : -2);
        }

        says("GENUS of a CONNECTED MAP: (n and 2 less the CYCLES of s, a, f together) through 2.");
        int[][] genus = {
            {1, 1, 1, 0}, {2, 21, 21, 0}, {3, 231, 312, 0}, {3, 231, 231, 1}, {4, 2341, 2341, 1}, {5, 23451, 23451, 2},
            {6, 234561, 234561, 2}, {7, 2345671, 7123456, 0}, {7, 2345671, 2314567, 1}, {7, 2345671, 3124567, 0},
            {7, 2345671, 2345671, 3}
        };
        for (int[] one : genus) {
            map(one[0], one[1], one[2]);
            int rings = x.cycles(0, 0) + x.cycles(1, 0) + x.cycles(2, 0);
            due("count(2) of " + one[1] + " " + one[2], x.count(2), one[3]);
            due("(n and 2 less the CYCLES) through 2", (one[0] + 2 - rings) / 2, one[3]);
        }
    }

    // ---- a permutation as a text

    /** Texts of n, each with what text(0, its length) answers. */
    private static void texts(int n, Object... due) {
        for (int i = 0; i < due.length; i += 2) {
            fresh().degree(n);
            due("text \"" + due[i] + "\" of " + n, text(0, (String) due[i]), (Integer) due[i + 1]);
        }
    }

    private static void texts() {
        says("A PERMUTATION as a TEXT of 1 to 60 bytes: CYCLES one behind the other: ( (40), numbers 1 to n with blanks (32) between, ) (41);");
        String sixty = "(1 2)" + " ".repeat(55);
        scene = o -> tape(o, sixty + " ");
        refused("text(0,0)", o -> o.text(0, 0));
        refused("text(0,61)", o -> o.text(0, 61));
        texts(3, sixty, 213, "e", 123, "(1 2)" + " ".repeat(54) + ")", -1059, "(1 2" + " ".repeat(55) + ")", 213);
        int[] across = {1, 21, 321, 4231, 52341, 623451, 7234561};
        for (int n = 1; n <= 7; n++) {
            texts(n, n == 1 ? "(1)" : "(1 " + n + ")", across[n - 1], "(" + n + ")", stays(n));
            texts(n, "(" + (n + 1) + ")", -2001, "(0)", -2001);
        }
        texts(5, "(1 2)(3 4 5)", 21453, "(1 2)(3 4)(5)", 21435);
        // the bytes 40, 32, 41 with those on either side
        texts(3, "'1 2)", -1000, "(1 2)", 213, ")1 2)", -1000, "*1 2)", -1000);
        texts(3, "(1\0372)", -1002, "(1 2)", 213, "(1!2)", -1002, "(1\0002)", -1002, "(1\2402)", -1002);
        texts(3, "(1 2(", -1004, "(1 2*", -1004, "(1 2\251", -1004, "\2501 2)", -1000, "(\t1 2)", -1001);
        texts(3, "(/)", -1001, "(0)", -2001, "(1)", 123, "(9)", -2001, "(:)", -1001, "(\261)", -1001);

        says("DARTS that are not told stay; just e: all stay.");
        texts(5, "(2 4)", 14325, "(5 1)", 52341, "(3)", 12345, "(1 2 3 4 5)", 23451, "(1)(2)(3)(4)(5)", 12345, "e", 12345);
        texts(1, "e", 1, "(1)", 1);
        texts(7, "e", 1234567, "(7 6 5 4 3 2 1)", 7123456);
        texts(3, "d", -1000, "f", -1000, "E", -1000, "ee", -1001, "e e", -1002, "e(1)", -1001, "(1)e", -1003, "(e)", -1001, "e1", -1001);
        map(3, 231, 312);
        due("text e of s", text(0, "e"), 123);
        due("a", x.code(1), 312);

        says("Blanks are where one likes, not among digits; at least one between two numbers.");
        texts(4, "(1 2)(3 4)", 2143, "(1  2)(3   4)", 2143, " (1 2)(3 4)", 2143, "( 1 2)(3 4)", 2143, "(1 2 )(3 4)", 2143);
        texts(4, "(1 2) (3 4)", 2143, "(1 2)(3 4) ", 2143, "  (  1  2  )  (  3  4  )  ", 2143, " e", 1234, "e ", 1234, "  e  ", 1234);
        texts(4, "(12)", -1002, "(1 2)", 2134, "(1 23)", -1004, "(1 2 3)", 2314);
    }

    private static void faults() {
        says("FAULTS, the first byte from the left that is wrong (the end: at the length), of one byte the least:");
        texts(3, "(9 1 1 (", -2001, "(1 1 9 (", -3003, "(1 ( 9 1", -1003, ")(9", -1000, "(1)) 9", -1003);
        texts(3, "(", -1001, "( ", -1002, "(1", -1002, "(1 ", -1003, "(1 2", -1004, "(1)(", -1004, "(1)(2", -1005, " (", -1002);
        for (int k = 1; k <= 5; k++) {
            tape(fresh(), "(1 2)");
            due("text(0," + k + ") of (1 2)", x.text(0, k), k < 5 ? -1000 - k : 213);
        }
        texts(3, "(1 2" + " ".repeat(56), -1060, "(1 2" + " ".repeat(55), -1059, " ".repeat(59) + "(", -1060, " ".repeat(59) + "e", 123);
        // of one byte: a second digit, or one outside, that there is not, or that was told
        texts(3, "(19)", -1002, "(10)", -1002, "(11)", -1002, "(1 22)", -1004, "9", -1000, "0", -1000, "(1)1", -1003, "(1)9", -1003);
        texts(3, "(1 9)", -2003, "(1 1)", -3003);

        says("1 it can't stand there (a second digit of a number, an empty ( ), too: at it, at the ));");
        texts(3, "(12)", -1002, "(1 2)", 213, "(123)", -1002, "(1 23)", -1004);
        texts(3, "()", -1001, "( )", -1002, "(  )", -1003, "(1)()", -1004, "(1)( )", -1005, "(1)", 123);
        texts(3, "1", -1000, ")", -1000, "(1))", -1003, "((1)", -1001, "(1(", -1002, "(1 (2)", -1003, "(1)2", -1003, "(,)", -1001);
        texts(3, "x", -1000, "(1,2)", -1002, "(-1)", -1001, "\377", -1000, "(\377", -1001, "\0", -1000, "(1)\0", -1003, "(1)x", -1003);

        says("2 a number that there is not; 3 one that was told already.");
        for (int n = 1; n <= 7; n++) {
            texts(n, "(1)", stays(n), "(0)", -2001, "(" + n + ")", stays(n), "(" + (n + 1) + ")", -2001, "(9)", -2001, "(1 0)", -2003);
            texts(n, "(" + n + " " + n + ")", -3003, "(" + n + ")(" + n + ")", -3004, "(1)(1 0)", -3004);
        }
        texts(5, "(1 2)(3 2)", -3008, "(1 2)(3 4)", 21435, "(1 2 1)", -3005, "(1 2 3)", 23145);
        fresh();
        due("a fault", text(0, "(1 1)"), -3003);
        due("a new text: nothing is told of it", text(0, "(1 2)"), 213);
        due("nor of that", text(1, "(2 1)"), 213);
        for (String broken : new String[] {"(1 1)", "(1 2", "(1 9", "(1 2) (3 3", "e(", "(1x", "(1 2)(", "e e"}) {
            holds("a fault", text(0, broken) <= -1000);
            due("(2 3) behind " + broken, text(0, "(2 3)"), 132);
            holds("a fault", text(0, broken) <= -1000);
            due("e behind " + broken, text(0, "e"), 123);
        }
    }

    // ---- classes, the group

    private static void relabellings() {
        says("A RELABELLING r (a PERMUTATION) of a MAP: of each p of it that one which brings r(x) to r(p(x)).");
        for (int p : every(3)) {
            for (int r : every(3)) {
                int q = fresh().reckon(1, p, r);
                for (int dart = 1; dart <= 3; dart++) due(p + " by " + r, at(q, at(r, dart)), at(r, at(p, dart)));
            }
        }
        fresh().degree(1);
        due("reckon(1,1,1)", x.reckon(1, 1, 1), 1);
        x.degree(7);
        due("stays by any", x.reckon(1, 1234567, 4317652), 1234567);
        due("by what stays", x.reckon(1, 4317652, 1234567), 4317652);
        due("a round by turning it", x.reckon(1, 2345671, 2345671), 2345671);
        due("(1 2) by 1 to 7, 2 to 6", x.reckon(1, 2134567, 7654321), 1234576);

        says("CLASS: all MAPS that are RELABELLINGS of one.");
        for (int[] m : new int[][] {{123, 123}, {231, 231}, {231, 312}, {213, 132}, {213, 213}, {213, 231}, {123, 213}}) {
            map(3, m[0], m[1]);
            for (int s : every(3)) {
                for (int a : every(3)) {
                    boolean like = false;
                    for (int r : every(3)) like |= by(m[0], r) == s && by(m[1], r) == a;
                    due("same(" + s + "," + a + ") with " + m[0] + " " + m[1], x.same(s, a), like ? 1 : 0);
                }
            }
        }

        says("CANON of a MAP: of its CLASS the one with the least CODE of s, of like ones of a.");
        for (int n = 1; n <= 3; n++) for (int s : every(n)) for (int a : every(n)) leastOf(n, s, a);
        for (int s : every(4)) for (int a : List.of(1234, 1243, 2341, 4321, 3142, 2314)) leastOf(4, s, a);
        leastOf(6, 654321, 234561);
        leastOf(7, 1234567, 1234567);
        leastOf(7, 7654321, 1234567);
        leastOf(7, 1234567, 7654321);

        says("AUTS: how many r leave s and a as they are.");
        int[][] auts = {
            {1, 1, 1, 1}, {2, 12, 12, 2}, {2, 21, 12, 2}, {3, 231, 123, 3}, {3, 213, 132, 1}, {4, 2134, 1243, 4}, {7, 1234567, 1234567, 5040},
            {7, 2345671, 1234567, 7}, {7, 2345671, 2345671, 7}, {7, 2345671, 2134567, 1}, {7, 2134567, 1234567, 240}, {4, 2143, 3412, 4}
        };
        for (int[] one : auts) {
            map(one[0], one[1], one[2]);
            due("count(3) of " + one[1] + " " + one[2], x.count(3), one[3]);
        }
    }

    private static void leastOf(int n, int s, int a) {
        map(n, s, a);
        int[] least = canon(n, s, a);
        row("canon of " + s + " " + a, x::canon, least[0], least[1], faces(least[0], least[1]), -1);
    }

    private static void operations() {
        says("0 COLOURS: (s, a) becomes (a, s); 1 MIRROR: both become what undoes them; 2 TURN: (a, f); 3 FACES: (f, a).");
        // f is 1423
        int[][] behind = {{2134, 2341}, {4123, 2134}, {2134, 1423}, {1423, 2134}};
        for (int what = 0; what < 4; what++) {
            map(4, 2341, 2134);
            due("operate(" + what + ")", x.operate(what), behind[what][0]);
            row("code after operate(" + what + ")", x::code, behind[what][0], behind[what][1], faces(behind[what][0], behind[what][1]));
        }
        scene = o -> draw(o, 4, 2341, 2134);
        refused("operate(-1)", o -> o.operate(-1));
        refused("operate(4)", o -> o.operate(4));

        says("OPERATIONS:");
        map(1, 1, 1);
        for (int what = 0; what < 4; what++) due("operate(" + what + ") of one dart", x.operate(what), 1);

        says("SYMMETRIC by one: CANON is the same behind it.");
        for (int n = 1; n <= 3; n++) for (int s : every(n)) for (int a : every(n)) symmetric(n, s, a);
        for (int s : List.of(2341, 2143, 2314, 1342)) for (int a : every(4)) symmetric(4, s, a);
        // none, each one alone, some, all
        int[][] due = {
            {5, 14253, 41352, 0}, {5, 53142, 14253, 1}, {2, 12, 21, 2}, {2, 21, 21, 3}, {6, 235146, 513642, 4}, {5, 53142, 52431, 8},
            {2, 21, 12, 10}, {7, 4275136, 7153462, 13}, {1, 1, 1, 15}
        };
        for (int[] one : due) {
            map(one[0], one[1], one[2]);
            due("count(7) of " + one[1] + " " + one[2], x.count(7), one[3]);
        }
    }

    private static void symmetric(int n, int s, int a) {
        int f = faces(s, a);
        int[][] behind = {{a, s}, {undoing(s), undoing(a)}, {a, f}, {f, a}};
        int[] own = canon(n, s, a);
        int bits = 0;
        for (int what = 0; what < 4; what++) {
            int[] least = canon(n, behind[what][0], behind[what][1]);
            if (least[0] == own[0] && least[1] == own[1]) bits |= 1 << what;
        }
        map(n, s, a);
        due("count(7) of " + s + " " + a, x.count(7), bits);
    }

    private static void groups() {
        says("THE GROUP: all PERMUTATIONS that come by s and a one behind the other, as often as one likes.");
        int[][] orders = {
            {1, 1, 1, 1}, {2, 12, 12, 1}, {2, 12, 21, 2}, {3, 213, 132, 6}, {3, 231, 312, 3}, {4, 2143, 3412, 4}, {4, 2341, 1432, 8}, {4, 2314, 1342, 12},
            {7, 1234567, 1234567, 1}, {7, 2345671, 1234567, 7}, {7, 1234567, 2345671, 7}, {7, 2345671, 7654321, 14}, {7, 1235476, 2451637, 168},
            {7, 2345671, 2314567, 2520}, {7, 2345671, 2134567, 5040}, {7, 2145673, 1234567, 10}, {7, 2134567, 1245673, 10}
        };
        for (int[] one : orders) {
            map(one[0], one[1], one[2]);
            due("count(4) of " + one[1] + " " + one[2], x.count(4), one[3]);
        }

        says("A BLOCK SYSTEM of a CONNECTED MAP: DARTS laid in sets of d each (1 less than d, d less than n), so that s and a bring each set to a set.");
        // n, s, a, how many, d of the first, its set with DART 1
        int[][] systems = {
            {1, 1, 1, 0, -2, -2}, {2, 21, 12, 0, -2, -2}, {3, 231, 123, 0, -2, -2}, {4, 2341, 1234, 1, 2, 5}, {4, 2341, 3214, 1, 2, 5},
            {4, 2341, 2134, 0, -2, -2}, {4, 2143, 1234, 0, -2, -2}, {4, 2143, 1324, 1, 2, 9}, {5, 23451, 12345, 0, -2, -2},
            {6, 234561, 123456, 2, 2, 9}, {6, 234561, 426153, 1, 2, 9}, {6, 234561, 213456, 0, -2, -2}, {7, 2345671, 1234567, 0, -2, -2}
        };
        for (int[] one : systems) {
            map(one[0], one[1], one[2]);
            due("count(5) of " + one[1] + " " + one[2], x.count(5), one[3]);
            row("block(0,..) of " + one[1] + " " + one[2], w -> x.block(0, w), one[4], one[5]);
        }

        says("They are ordered by d, then by the set with DART 1 (as bits, bit x less 1 for DART x).");
        // the group of a triangle on itself: turned 1 2 3, mirrored 4 5 6
        map(6, 231645, 456123);
        row("block(..,0)", i -> x.block(i, 0), 2, 2, 2, 3, -2);
        row("block(..,1)", i -> x.block(i, 1), 9, 17, 33, 7, -2);
        map(4, 2143, 3412);
        row("block(..,1)", i -> x.block(i, 1), 3, 5, 9, -2);

        says("The QUOTIENT by one: a MAP of the sets, numbered by their least DARTS.");
        map(6, 231645, 456123);
        row("block(0,..)", w -> x.block(0, w), 2, 9, 231, 132, -1);
        row("block(3,..)", w -> x.block(3, w), 3, 7, 12, 21, -1);
        // round, the sets come as 1 2, 5 6, 3 4
        map(6, 561234, 213456);
        row("block(0,..)", w -> x.block(0, w), 2, 3, 312, 123, -1);
    }

    // ---- triples

    private static void triples() {
        says("TRIPLES of three TYPES (of n): how many MAPS have that PASSPORT.");
        int all = 1;
        for (int n = 1; n <= 4; n++) {
            all *= n;
            long sum = 0;
            fresh().degree(n);
            int many = x.kinds(-1);
            for (int i = 0; i < many; i++) {
                fresh().degree(n);
                for (int k = 0; k < many; k++) {
                    for (int m = 0; m < many; m++) sum += x.triples(x.kinds(i), x.kinds(k), x.kinds(m), 0);
                }
            }
            due("all TRIPLES of " + n, sum, (long) all * all);
        }

        says("By CHARACTERS: the sizes of the three kinds (how many PERMUTATIONS have a TYPE) multiplied, through n!, times the sum over all CHARACTERS of the three VALUES multiplied, through the VALUE at TYPE 1 .. 1.");
        long factorial = 1;
        for (int n = 1; n <= 4; n++) {
            factorial *= n;
            fresh().degree(n);
            int many = x.kinds(-1);
            int[] t = new int[many];
            for (int i = 0; i < many; i++) t[i] = x.kinds(i);
            for (int i = 0; i < many; i++) for (int k = 0; k < many; k++) for (int m = 0; m < many; m++) characters(n, factorial, t, t[i], t[k], t[m]);
        }
        fresh().degree(7);
        due("triples(7,7,7,2)", x.triples(7, 7, 7, 2), 720 * 180);
        due("triples(1111111,..,2)", x.triples(1111111, 1111111, 1111111, 2), 1);
        due("triples(61,61,7,2)", x.triples(61, 61, 7, 2), x.triples(61, 61, 7, 0));
    }

    private static void characters(int n, long factorial, int[] all, int t1, int t2, int t3) {
        fresh().degree(n);
        long sum = 0;
        for (int p : all) {
            // the VALUE at 1 .. 1 goes into n!
            long through = factorial / x.character(p, all[0]);
            sum += through * x.character(p, t1) * x.character(p, t2) * x.character(p, t3);
        }
        long want = (long) x.size(t1) * x.size(t2) * x.size(t3) * sum / factorial / factorial;
        due("triples(" + t1 + "," + t2 + "," + t3 + ",2)", x.triples(t1, t2, t3, 2), want);
        due("triples(" + t1 + "," + t2 + "," + t3 + ",0)", x.triples(t1, t2, t3, 0), want);
    }

    private static void values() {
        says("A CHARACTER for each TYPE p of n: its VALUE at a TYPE t by strips: rows of p as a drawn figure of boxes; for the first digit k of t sum over all ways to take a rim strip of k boxes (joined, no four in a square, what is left is such a figure): (-1) to the (rows it touches less 1) times the VALUE of what is left at the rest of t;");
        int[][] p = {{2, 11}, {3, 21, 111}, {4, 31, 22, 211, 1111}, {5, 41, 32, 311, 221, 2111, 11111}};
        int[][] t = {{11, 2}, {111, 21, 3}, {1111, 211, 22, 31, 4}, {11111, 2111, 221, 311, 32, 41, 5}};
        int[][][] want = {
            {{1, 1}, {1, -1}},
            {{1, 1, 1}, {2, 0, -1}, {1, -1, 1}},
            {{1, 1, 1, 1, 1}, {3, 1, -1, 0, -1}, {2, 0, 2, -1, 0}, {3, -1, -1, 0, 1}, {1, -1, 1, 1, -1}},
            {{1, 1, 1, 1, 1, 1, 1}, {4, 2, 0, 1, -1, 0, -1}, {5, 1, 1, -1, 1, -1, 0}, {6, 0, -2, 0, 0, 0, 1}, {5, -1, 1, -1, -1, 1, 0},
                {4, -2, 0, 1, 1, 0, -1}, {1, -1, 1, 1, -1, -1, 1}}
        };
        for (int i = 0; i < 4; i++) {
            fresh().degree(i + 2);
            for (int k = 0; k < p[i].length; k++) {
                int row = p[i][k];
                int[] types = t[i];
                for (int m = 0; m < types.length; m++) due("character(" + row + "," + types[m] + ")", x.character(row, types[m]), want[i][k][m]);
            }
        }
        // one strip of seven: the figures of one row and one column, by their rows
        fresh().degree(7);
        int[][] strips = {{7, 1}, {61, -1}, {511, 1}, {4111, -1}, {31111, 1}, {211111, -1}, {1111111, 1}, {52, 0}, {43, 0}, {331, 0}, {2221, 0}};
        for (int[] one : strips) due("character(" + one[0] + ",7)", x.character(one[0], 7), one[1]);

        says("of nothing at nothing 1.");
        fresh().degree(1);
        due("character(1,1)", x.character(1, 1), 1);
        due("character(0,0)", x.character(0, 0), -1000000);
    }

    private static void classes() {
        says("CLASSES of three TYPES: of CONNECTED MAPS of that PASSPORT, by CANON (CODE of s, then of a).");
        fresh().degree(7);
        row("classes(22111,331,7,..,0)", i -> x.classes(22111, 331, 7, i, 0), 1235476, 1235476, -2);
        row("classes(22111,331,7,..,1)", i -> x.classes(22111, 331, 7, i, 1), 2451637, 2461357, -2);
        // of all that stay none is CONNECTED, but for one DART
        due("classes(1111111,..)", x.classes(1111111, 1111111, 1111111, -1, 0), 0);
        due("triples(1111111,..)", x.triples(1111111, 1111111, 1111111, 0), 1);
        x.degree(1);
        due("classes(1,1,1)", x.classes(1, 1, 1, -1, 0), 1);
        x.degree(5);
        int before = 0;
        for (int i = 0; i < x.classes(32, 32, 5, -1, 0); i++) {
            int a = x.classes(32, 32, 5, i, 1);
            due("CODE of s of class " + i, x.classes(32, 32, 5, i, 0), 21453);
            holds("class " + i + " comes behind", a > before);
            before = a;
        }

        says("SIBLINGS of a CONNECTED MAP: CLASSES of its PASSPORT whose GROUP has as many PERMUTATIONS and that have as many AUTS.");
        siblings(1, 1, 1, 1, new int[][] {{1, 1, 1}});
        siblings(5, 41, 41, 5, new int[][] {{120, 1, 1}, {20, 1, 2}, {20, 1, 2}});
        siblings(5, 5, 5, 5, new int[][] {{5, 5, 3}, {60, 1, 1}, {5, 5, 3}, {5, 5, 3}});
        siblings(6, 2211, 6, 6, new int[][] {{36, 1, 1}, {24, 2, 1}, {120, 1, 1}});
        siblings(7, 22111, 331, 7, new int[][] {{168, 1, 2}, {168, 1, 2}});
        map(4, 2134, 1243);
        due("count(8), not CONNECTED", x.count(8), -2);
    }

    /** Classes of a passport, each with its GROUP's PERMUTATIONS, its AUTS, its SIBLINGS. */
    private static void siblings(int n, int t1, int t2, int t3, int[][] want) {
        fresh().degree(n);
        due("classes(" + t1 + "," + t2 + "," + t3 + ")", x.classes(t1, t2, t3, -1, 0), want.length);
        for (int i = 0; i < want.length; i++) {
            int s = x.classes(t1, t2, t3, i, 0);
            int a = x.classes(t1, t2, t3, i, 1);
            x.set(0, s);
            x.set(1, a);
            due("count(4) of " + s + " " + a, x.count(4), want[i][0]);
            due("count(3) of " + s + " " + a, x.count(3), want[i][1]);
            due("count(8) of " + s + " " + a, x.count(8), want[i][2]);
        }
    }

    private static void album() {
        says("THE ALBUM: up to 12 CLASSES of CONNECTED MAPS of any n, each once, as they came.");
        fresh();
        // n, CODES of CANON, GENUS
        int[][] maps = {
            {7, 2345671, 1234567, 0}, {1, 1, 1, 0}, {3, 132, 213, 0}, {2, 21, 21, 0}, {2, 12, 21, 0}, {2, 21, 12, 0}, {4, 2341, 1234, 0},
            {5, 23451, 12345, 0}, {6, 234561, 123456, 0}, {3, 231, 231, 1}, {3, 231, 312, 0}, {3, 231, 123, 0}
        };
        for (int i = 0; i < 12; i++) {
            draw(x, maps[i][0], maps[i][1], maps[i][2]);
            due("paste() of " + maps[i][1] + " " + maps[i][2], x.paste(), i);
            due("count(9)", x.count(9), i + 1);
            due("paste() again", x.paste(), i);
        }
        draw(x, 3, 132, 231);
        due("paste() of one too many", x.paste(), -3);
        due("count(9)", x.count(9), 12);
        draw(x, 3, 321, 132);
        due("paste() of one that is there", x.paste(), 2);
        for (int i = 0; i < 12; i++) {
            for (int w = 0; w < 4; w++) due("piece(" + i + "," + w + ")", x.piece(i, w), maps[i][w]);
        }
        due("piece(12,0)", x.piece(12, 0), -1);
    }

    // ---- of all calls

    private static void memory() {
        says("All memory is the drawer's own.");
        DrawnMaps one = new DrawnMaps();
        DrawnMaps other = new DrawnMaps();
        rich(one);
        row("count of the other", other::count, 3, 3, -2, 6, 1, 0, 0, 15, -2, 0, 0, 0);
        row("code of the other", other::code, 123, 123, 123);
        rich(other);
        holds("both show the same", look(one, true).equals(look(other, true)));
    }

    /** n is 4, in two PARTS; the rest as in a rich scene. */
    private static void apart(DrawnMaps on) {
        rich(on);
        draw(on, 4, 2134, 1243);
    }

    private static void fullAlbum(DrawnMaps on) {
        int[] whites = {1234567, 2134567, 3214567, 4231567, 2314567, 3124567, 2143567, 2341567, 2345167, 2345617, 2345671, 7123456};
        for (int a : whites) {
            draw(on, 7, 2345671, a);
            on.paste();
        }
    }

    private static void refusals() {
        says("A call that is refused (NONE, -2 to -9, false) changes nothing but the tape, where it is told.");
        // n is 5, s 23451, a 13254: all even permutations
        refused("degree(8)", o -> o.degree(8));
        refused("set(2,12345)", o -> o.set(2, 12345));
        refused("set(0,12344)", o -> o.set(0, 12344));
        refused("text(2,3)", o -> o.text(2, 3));
        refused("operate(4)", o -> o.operate(4));
        refused("code(3)", o -> o.code(3));
        refused("type(3)", o -> o.type(3));
        refused("cycles(0,4)", o -> o.cycles(0, 4));
        refused("along(0,6,0)", o -> o.along(0, 6, 0));
        refused("along(0,1,5)", -2, o -> o.along(0, 1, 5));
        refused("count(12)", o -> o.count(12));
        refused("part(6,0)", o -> o.part(6, 0));
        refused("canon(3)", o -> o.canon(3));
        refused("point(0,0,2)", o -> o.point(0, 0, 2));
        refused("point(0,1,0)", -2, o -> o.point(0, 1, 0));
        refused("same(1,1)", o -> o.same(1, 1));
        refused("label(1,1)", o -> o.label(1, 1));
        refused("label(12345,12345)", -2, o -> o.label(12345, 12345));
        refused("ofType(6)", o -> o.ofType(6));
        refused("elements(-1)", o -> o.elements(-1));
        refused("length(1)", o -> o.length(1));
        refused("length(21345)", -2, o -> o.length(21345));
        refused("block(-1,0)", o -> o.block(-1, 0));
        refused("block(0,0)", -2, o -> o.block(0, 0));
        refused("kinds(-2)", o -> o.kinds(-2));
        refused("kinds(7)", -2, o -> o.kinds(7));
        refused("size(6)", o -> o.size(6));
        refused("character(6,5)", -1000000, o -> o.character(6, 5));
        refused("triples(5,5,5,3)", o -> o.triples(5, 5, 5, 3));
        refused("classes(5,5,5,0,5)", o -> o.classes(5, 5, 5, 0, 5));
        refused("classes(5,5,5,4,0)", -2, o -> o.classes(5, 5, 5, 4, 0));
        refused("mass(5,5,5,2)", o -> o.mass(5, 5, 5, 2));
        refused("genera(5,5,4)", o -> o.genera(5, 5, 4));
        refused("thirds(5,5,-2)", o -> o.thirds(5, 5, -2));
        refused("thirds(5,5,9)", -2, o -> o.thirds(5, 5, 9));
        refused("family(0,2)", o -> o.family(0, 2));
        refused("family(12,0)", -2, o -> o.family(12, 0));
        refused("walk(6,1)", o -> o.walk(6, 1));
        refused("made(1,3)", o -> o.made(1, 3));
        refused("power(0,-1)", o -> o.power(0, -1));
        refused("roots(0,13,0)", o -> o.roots(0, 13, 0));
        refused("roots(0,5,0)", -2, o -> o.roots(0, 5, 0));
        refused("reckon(4,12345,12345)", o -> o.reckon(4, 12345, 12345));
        refused("way(1,6)", o -> o.way(1, 6));
        refused("meet(0,1,3,1)", o -> o.meet(0, 1, 3, 1));
        refused("piece(2,0)", o -> o.piece(2, 0));
        refused("take(2)", o -> o.take(2));
        scene = TermsEdgeTest::apart;
        refused("count(2)", -2, o -> o.count(2));
        refused("count(8)", -2, o -> o.count(8));
        refused("way(1,3)", -2, o -> o.way(1, 3));
        refused("paste()", -2, DrawnMaps::paste);
        scene = o -> {
            rich(o);
            for (int i = 0; i < 4; i++) o.feed(i, i, i, i, i);
        };
        refused("feed", o -> o.feed(0, 0, 0, 0, 0));
        scene = o -> {
            rich(o);
            for (int i = 0; i < 6; i++) o.keep();
        };
        refused("keep()", DrawnMaps::keep);
        scene = TermsEdgeTest::fullAlbum;
        refused("undo()", DrawnMaps::undo);
        scene = o -> {
            fullAlbum(o);
            draw(o, 7, 2345671, 3456712);
        };
        refused("paste()", -3, DrawnMaps::paste);
    }

    private static void reasons() {
        says("Of several reasons NONE comes first, then -2, and so on.");
        refused("along(3,1,5)", o -> o.along(3, 1, 5));
        refused("along(0,6,5)", o -> o.along(0, 6, 5));
        refused("point(3,5,0)", o -> o.point(3, 5, 0));
        refused("point(0,5,2)", o -> o.point(0, 5, 2));
        refused("label(12345,1)", o -> o.label(12345, 1));
        refused("block(0,4)", o -> o.block(0, 4));
        refused("classes(6,5,5,4,0)", o -> o.classes(6, 5, 5, 4, 0));
        refused("classes(5,5,5,4,5)", o -> o.classes(5, 5, 5, 4, 5));
        refused("thirds(5,6,9)", o -> o.thirds(5, 6, 9));
        refused("family(12,2)", o -> o.family(12, 2));
        refused("roots(3,5,0)", o -> o.roots(3, 5, 0));
        refused("roots(0,13,0)", o -> o.roots(0, 13, 0));
        scene = TermsEdgeTest::apart;
        refused("block(0,4)", o -> o.block(0, 4));
        refused("way(1,5)", o -> o.way(1, 5));
        // a FAULT is no reason, where there is NONE
        scene = o -> tape(o, "x");
        refused("text(2,1)", o -> o.text(2, 1));
        refused("text(0,61)", o -> o.text(0, 61));
        refused("walk(0,1)", o -> o.walk(0, 1));
        refused("walk(4,1)", o -> o.walk(4, 1));
        refused("made(1,3)", o -> o.made(1, 3));
        // there are 12, and it is not CONNECTED
        scene = o -> {
            fullAlbum(o);
            draw(o, 3, 213, 123);
        };
        refused("paste()", -2, DrawnMaps::paste);
    }

    private static void constants() {
        says("The constants: `NONE = -1`: There is none.");
        due("NONE", DrawnMaps.NONE, -1);
    }

    public static void main(String[] args) {
        calls();
        darts();
        codes();
        maps();
        types();
        parts();
        texts();
        faults();
        relabellings();
        operations();
        groups();
        triples();
        values();
        classes();
        album();
        memory();
        refusals();
        reasons();
        constants();
        end();
    }
}
