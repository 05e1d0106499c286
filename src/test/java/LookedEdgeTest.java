import java.util.List;

/** The boundary cases that promises 9 to 18 (what is looked at) name, sentence by sentence. */
public final class LookedEdgeTest extends Edges {
    private static final int[] NO_TURN = {-1, 3, 4, LOW, HIGH};

    private static void code() {
        promise(9);
        says("CODE of s (which 0), a (1), f (2);");
        map(4, 2341, 2134);
        row("code", x::code, 2341, 2134, 1423);
        map(1, 1, 1);
        row("code of one dart", x::code, 1, 1, 1);
        map(7, 7654321, 2345671);
        // s, then a: 1 to 7 to 1, 2 to 6 to 7, 3 to 5 to 6, 4 to 5, 5 to 3 to 4, 6 to 2 to 3, 7 to 1 to 2
        row("code of seven", x::code, 7654321, 2345671, 1765432);

        says("NONE: no such one.");
        for (int which : NO_TURN) refused("code(" + which + ")", o -> o.code(which));
    }

    private static void type() {
        promise(10);
        says("TYPE of s, a, f;");
        map(4, 2341, 2134);
        row("type", x::type, 4, 211, 31);
        map(1, 1, 1);
        row("type of one dart", x::type, 1, 1, 1);
        map(7, 1234567, 2345671);
        row("type of seven", x::type, 1111111, 7, 7);
        map(7, 2345617, 2143657);
        row("type, most first", x::type, 61, 2221, 31111);
        // every TYPE of 7, by one of it
        int[][] due = {
            {1234567, 1111111}, {1234576, 211111}, {1234675, 31111}, {1235476, 22111}, {1235674, 4111}, {1324675, 3211}, {1325476, 2221},
            {1245673, 511}, {1325674, 421}, {1342675, 331}, {2143675, 322}, {1345672, 61}, {2145673, 52}, {2315674, 43}, {2345671, 7}
        };
        for (int[] one : due) {
            map(7, one[0], 1234567);
            due("type(0) of " + one[0], x.type(0), one[1]);
        }

        says("NONE: no such one.");
        for (int which : NO_TURN) refused("type(" + which + ")", o -> o.type(which));
    }

    private static void cycles() {
        promise(11);
        says("Of s, a, f, what 0 how many CYCLES, 1 how many DARTS stay, 2 the least number of times that bring all DARTS back, 3 1 if CYCLES with an even number of DARTS are odd in number, else 0;");
        // n, s, CYCLES, DARTS that stay, times, 1 or 0
        int[][] due = {
            {1, 1, 1, 1, 1, 0}, {2, 12, 2, 2, 1, 0}, {2, 21, 1, 0, 2, 1}, {3, 231, 1, 0, 3, 0}, {4, 2143, 2, 0, 2, 0}, {4, 2134, 3, 2, 2, 1}, {4, 2341, 1, 0, 4, 1},
            {5, 23154, 2, 0, 6, 1}, {6, 214365, 3, 0, 2, 1}, {6, 214563, 2, 0, 4, 0}, {6, 234561, 1, 0, 6, 1}, {7, 1234567, 7, 7, 1, 0}, {7, 2134567, 6, 5, 2, 1},
            {7, 2345671, 1, 0, 7, 0}, {7, 2315674, 2, 0, 12, 1}, {7, 2145673, 2, 0, 10, 1}, {7, 2143657, 4, 1, 2, 1}, {7, 2145637, 3, 1, 4, 0}
        };
        for (int[] one : due) {
            map(one[0], one[1], stays(one[0]));
            row("cycles(0,..) of " + one[1], w -> x.cycles(0, w), one[2], one[3], one[4], one[5], -1);
            // f undoes s: it has as many
            row("cycles(2,..) of " + one[1], w -> x.cycles(2, w), one[2], one[3], one[4], one[5], -1);
            row("cycles(1,..) of " + one[1], w -> x.cycles(1, w), one[0], one[0], 1, 0, -1);
            x.operate(0);
            row("cycles(1,..) of " + one[1] + " as a", w -> x.cycles(1, w), one[2], one[3], one[4], one[5], -1);
        }

        says("NONE: no such ones.");
        for (int which : NO_TURN) refused("cycles(" + which + ",0)", o -> o.cycles(which, 0));
        for (int what : new int[] {-1, 4, LOW, HIGH}) {
            for (int which = 0; which < 3; which++) {
                int w = which;
                refused("cycles(" + which + "," + what + ")", o -> o.cycles(w, what));
            }
        }
    }

    private static void along() {
        promise(12);
        says("The i-th DART (0: itself) that comes from a DART by s, a, f;");
        map(7, 2315674, 1234576);
        row("along(0,1,..)", i -> x.along(0, 1, i), 1, 2, 3, -2);
        row("along(0,3,..)", i -> x.along(0, 3, i), 3, 1, 2, -2);
        row("along(0,7,..)", i -> x.along(0, 7, i), 7, 4, 5, 6, -2);
        row("along(1,7,..)", i -> x.along(1, 7, i), 7, 6, -2);
        row("along(1,1,..)", i -> x.along(1, 1, i), 1, -2);
        // s, then a: 4 5 7 round, 6 stays; f is against that
        row("along(2,4,..)", i -> x.along(2, 4, i), 4, 7, 5, -2);
        row("along(2,1,..)", i -> x.along(2, 1, i), 1, 3, 2, -2);
        row("along(2,6,..)", i -> x.along(2, 6, i), 6, -2);

        says("-2: as many as its CYCLE has come ahead;");
        int[] round = {1, 21, 231, 2341, 23451, 234561, 2345671};
        for (int n = 1; n <= 7; n++) {
            int degree = n;
            map(n, round[n - 1], stays(n));
            due("the last along s", x.along(0, 1, n - 1), n);
            due("the last along f", x.along(2, 1, n - 1), n == 1 ? 1 : 2);
            scene = o -> draw(o, degree, round[degree - 1], stays(degree));
            for (int i : new int[] {n, n + 1, 2 * n, HIGH}) {
                refused("along(0,1," + i + ")", -2, o -> o.along(0, 1, i));
                refused("along(2," + n + "," + i + ")", -2, o -> o.along(2, degree, i));
            }
            refused("along(1," + n + ",1)", -2, o -> o.along(1, degree, 1));
        }

        says("NONE: no such ones.");
        // n is 5
        for (int which : NO_TURN) refused("along(" + which + ",1,0)", o -> o.along(which, 1, 0));
        for (int dart : new int[] {0, 6, -1, 7, LOW, HIGH}) refused("along(0," + dart + ",0)", o -> o.along(0, dart, 0));
        for (int i : new int[] {-1, -2, LOW}) refused("along(0,1," + i + ")", o -> o.along(0, 1, i));
        refused("along(3,1,5)", o -> o.along(3, 1, 5));
        refused("along(0,6,5)", o -> o.along(0, 6, 5));
        refused("along(0,0,5)", o -> o.along(0, 0, 5));
    }

    private static void counted(String call, int what, int[][] due) {
        for (int[] one : due) {
            map(one[0], one[1], one[2]);
            due(call + " of " + one[1] + " " + one[2], x.count(what), one[3]);
        }
    }

    private static void count() {
        promise(13);
        says("0 n,");
        counted("count(0)", 0, new int[][] {{1, 1, 1, 1}, {2, 12, 12, 2}, {6, 123456, 123456, 6}, {7, 1234567, 1234567, 7}});

        says("1 PARTS,");
        counted("count(1)", 1, new int[][] {
            {1, 1, 1, 1}, {2, 12, 12, 2}, {2, 12, 21, 1}, {4, 2134, 1243, 2}, {7, 1234567, 1234567, 7}, {7, 2134567, 1234567, 6}, {7, 2143657, 1325476, 1},
            {7, 2143657, 1325467, 2}, {7, 2345671, 1234567, 1}, {7, 2345617, 1234567, 2}
        });

        says("2 GENUS (-2: not CONNECTED),");
        counted("count(2)", 2, new int[][] {
            {1, 1, 1, 0}, {2, 12, 12, -2}, {2, 21, 12, 0}, {3, 231, 231, 1}, {3, 231, 312, 0}, {3, 213, 123, -2}, {5, 23451, 23451, 2}, {7, 2345671, 2345671, 3},
            {7, 2345617, 2345617, -2}, {7, 2345617, 2345671, 2}
        });

        says("3 AUTS,");
        counted("count(3)", 3, new int[][] {
            {1, 1, 1, 1}, {2, 12, 12, 2}, {3, 213, 132, 1}, {3, 213, 213, 2}, {4, 2134, 1243, 4}, {7, 1234567, 1234567, 5040}, {7, 2345671, 2345671, 7},
            {7, 2345671, 2134567, 1}
        });

        says("4 GROUP's PERMUTATIONS,");
        counted("count(4)", 4, new int[][] {
            {1, 1, 1, 1}, {2, 12, 12, 1}, {2, 12, 21, 2}, {4, 2341, 2134, 24}, {4, 2314, 1342, 12}, {5, 23451, 13254, 60}, {6, 234561, 213456, 720},
            {7, 1234567, 1234567, 1}, {7, 2345671, 1235476, 2520}, {7, 1235476, 2451637, 168}, {7, 2345671, 2134567, 5040}, {7, 2345671, 1234576, 5040}
        });

        says("5 BLOCK SYSTEMS (0: not CONNECTED),");
        int[][] systems = {
            {1, 1, 1, 0}, {2, 21, 12, 0}, {3, 231, 123, 0}, {4, 2341, 1234, 1}, {4, 2143, 1234, 0}, {4, 2143, 3412, 3}, {4, 2341, 2134, 0}, {6, 234561, 123456, 2},
            {6, 231645, 456123, 4}, {6, 231564, 123456, 0}, {7, 2345671, 1234567, 0}
        };
        counted("count(5)", 5, systems);

        says("6 1 if CONNECTED without any, else 0,");
        counted("count(6)", 6, new int[][] {
            {1, 1, 1, 1}, {2, 12, 12, 0}, {2, 21, 12, 1}, {3, 231, 123, 1}, {3, 213, 123, 0}, {4, 2341, 1234, 0}, {4, 2143, 1234, 0}, {4, 2143, 3412, 0},
            {4, 2341, 2134, 1}, {6, 234561, 123456, 0}, {6, 231564, 123456, 0}, {6, 234561, 213456, 1}, {7, 2345671, 1234567, 1}, {7, 2345617, 1234567, 0}
        });

        says("7 SYMMETRIC ones as bits,");
        counted("count(7)", 7, new int[][] {
            {5, 14253, 41352, 0}, {5, 53142, 14253, 1}, {2, 12, 21, 2}, {2, 21, 21, 3}, {6, 235146, 513642, 4}, {7, 3614275, 1576234, 6}, {5, 53142, 52431, 8},
            {2, 21, 12, 10}, {7, 4275136, 7153462, 13}, {1, 1, 1, 15}, {4, 2134, 1243, 3}, {7, 1234567, 1234567, 15}
        });

        says("8 SIBLINGS (-2: not CONNECTED),");
        counted("count(8)", 8, new int[][] {
            {1, 1, 1, 1}, {2, 12, 12, -2}, {2, 21, 12, 1}, {3, 213, 123, -2}, {3, 213, 132, 1}, {5, 23451, 23451, 3}, {5, 23451, 34512, 3}, {7, 1235476, 2451637, 2},
            {7, 1234567, 1234567, -2}, {7, 2345671, 1234567, 1}
        });
    }

    private static void counters() {
        says("9 pieces of THE ALBUM,");
        fresh();
        due("count(9), none", x.count(9), 0);
        int[] whites = {1234567, 2134567, 3214567, 4231567, 2314567, 3124567, 2143567, 2341567, 2345167, 2345617, 2345671, 7123456, 3456712};
        for (int i = 0; i < 13; i++) {
            draw(x, 7, 2345671, whites[i]);
            due("paste()", x.paste(), i < 12 ? i : -3);
            due("count(9)", x.count(9), Math.min(i + 1, 12));
        }

        says("10 bytes of the tape,");
        fresh();
        due("count(10), none", x.count(10), 0);
        for (int i = 1; i <= 7; i++) {
            x.feed(0, 0, 0, 0, 0);
            due("count(10)", x.count(10), Math.min(20 * i, 120));
        }
        due("walk", x.walk(1, 1), -1000);
        due("count(10), none", x.count(10), 0);

        says("11 states that are kept;");
        fresh();
        due("count(11), none", x.count(11), 0);
        for (int i = 1; i <= 9; i++) {
            x.keep();
            due("count(11)", x.count(11), Math.min(i, 8));
        }
        for (int i = 7; i >= -1; i--) {
            x.undo();
            due("count(11)", x.count(11), Math.max(i, 0));
        }

        says("NONE for others.");
        for (int what : new int[] {-1, 12, -2, 13, LOW, HIGH}) refused("count(" + what + ")", o -> o.count(what));
        map(4, 2134, 1243);
        due("count(12), not CONNECTED", x.count(12), -1);
        due("count(-1), not CONNECTED", x.count(-1), -1);
    }

    private static void part() {
        promise(14);
        says("The least DART of the PART of a DART (what 0), how many DARTS it has (1), its GENUS as of a MAP by itself (2);");
        // 1 4 6 turned by both one way; 2 5 over one another; 3, 7 alone
        map(7, 4236517, 4536217);
        int[][] due = {{1, 3, 1}, {2, 2, 0}, {3, 1, 0}, {1, 3, 1}, {2, 2, 0}, {1, 3, 1}, {7, 1, 0}};
        for (int dart = 1; dart <= 7; dart++) {
            int d = dart;
            row("part(" + dart + ",..)", w -> x.part(d, w), due[dart - 1][0], due[dart - 1][1], due[dart - 1][2], -1);
        }
        map(1, 1, 1);
        row("part(1,..) of one", w -> x.part(1, w), 1, 1, 0, -1);
        map(7, 2345671, 2345671);
        row("part(7,..) of one PART", w -> x.part(7, w), 1, 7, 3, -1);
        map(7, 1234567, 1234567);
        row("part(7,..) of seven PARTS", w -> x.part(7, w), 7, 1, 0, -1);
        map(6, 123564, 123564);
        row("part(6,..)", w -> x.part(6, w), 4, 3, 1, -1);
        row("part(3,..)", w -> x.part(3, w), 3, 1, 0, -1);
        // a PART that only f goes round: s and a make it
        map(6, 214365, 132546);
        row("part(6,..)", w -> x.part(6, w), 1, 6, 0, -1);

        says("NONE: no such ones.");
        for (int dart : new int[] {0, 6, -1, 7, LOW, HIGH}) {
            for (int what = 0; what < 3; what++) {
                int w = what;
                refused("part(" + dart + "," + what + ")", o -> o.part(dart, w));
            }
        }
        for (int what : new int[] {-1, 3, LOW, HIGH}) refused("part(5," + what + ")", o -> o.part(5, what));
    }

    private static void canon() {
        promise(15);
        says("CODE of s (which 0), a (1), f (2) of CANON;");
        for (int n = 1; n <= 3; n++) for (int s : every(n)) for (int a : every(n)) least(n, s, a);
        for (int s : List.of(2314, 4312, 2143, 1234)) for (int a : every(4)) least(4, s, a);
        least(7, 7654321, 1726354);
        map(4, 4123, 2134);
        row("canon", x::canon, 2341, 1243, faces(2341, 1243));
        row("code is as it was", x::code, 4123, 2134);

        says("NONE: no such one.");
        for (int which : NO_TURN) refused("canon(" + which + ")", o -> o.canon(which));
    }

    private static void least(int n, int s, int a) {
        int[] least = canon(n, s, a);
        map(n, s, a);
        row("canon of " + s + " " + a, x::canon, least[0], least[1], faces(least[0], least[1]), -1);
    }

    private static void point() {
        promise(16);
        says("CYCLE i of s, a, f (from 0, by their least DARTS), what 0 its least DART, 1 how many it has;");
        // 1 4, 2, 3 6, 5
        map(6, 426153, 123456);
        row("point(0,..,0)", i -> x.point(0, i, 0), 1, 2, 3, 5, -2);
        row("point(0,..,1)", i -> x.point(0, i, 1), 2, 1, 2, 1, -2);
        row("point(1,..,0)", i -> x.point(1, i, 0), 1, 2, 3, 4, 5, 6, -2);
        row("point(1,..,1)", i -> x.point(1, i, 1), 1, 1, 1, 1, 1, 1, -2);
        row("point(2,..,0)", i -> x.point(2, i, 0), 1, 2, 3, 5, -2);
        map(7, 7654321, 2345671);
        row("point(0,..,0)", i -> x.point(0, i, 0), 1, 2, 3, 4, -2);
        row("point(0,..,1)", i -> x.point(0, i, 1), 2, 2, 2, 1, -2);
        row("point(1,..,0)", i -> x.point(1, i, 0), 1, -2);
        row("point(1,..,1)", i -> x.point(1, i, 1), 7, -2);
        // f is 1765432
        row("point(2,..,0)", i -> x.point(2, i, 0), 1, 2, 3, 4, -2);
        row("point(2,..,1)", i -> x.point(2, i, 1), 1, 2, 2, 2, -2);
        map(1, 1, 1);
        row("point(2,..,1) of one", i -> x.point(2, i, 1), 1, -2);

        says("-2: not so many;");
        // s has one CYCLE, a has three, f one
        for (int i : new int[] {1, 2, HIGH}) {
            refused("point(0," + i + ",0)", -2, o -> o.point(0, i, 0));
            refused("point(0," + i + ",1)", -2, o -> o.point(0, i, 1));
        }
        refused("point(1,3,0)", -2, o -> o.point(1, 3, 0));
        refused("point(1,3,1)", -2, o -> o.point(1, 3, 1));
        rich(fresh());
        due("point(1,2,0)", x.point(1, 2, 0), 4);
        due("point(0,0,1)", x.point(0, 0, 1), 5);

        says("NONE: no such ones.");
        for (int which : NO_TURN) refused("point(" + which + ",0,0)", o -> o.point(which, 0, 0));
        for (int i : new int[] {-1, -2, LOW}) refused("point(0," + i + ",0)", o -> o.point(0, i, 0));
        for (int what : new int[] {-1, 2, LOW, HIGH}) refused("point(0,0," + what + ")", o -> o.point(0, 0, what));
        refused("point(3,9,0)", o -> o.point(3, 9, 0));
        refused("point(0,9,2)", o -> o.point(0, 9, 2));
    }

    // ---- two maps

    private static final int[] NO_CODES = {0, 1, -12345, 1234, 123456, 12340, 12346, 12344, 11111, LOW, HIGH};

    private static void same() {
        promise(17);
        says("Whether a MAP of CODES s and a is in one CLASS with this one: 1, else 0;");
        map(1, 1, 1);
        due("same(1,1)", x.same(1, 1), 1);
        map(4, 2341, 2134);
        for (int r : every(4)) due("same by " + r, x.same(by(2341, r), by(2134, r)), 1);
        // s alike with another a, a alike with another s, both against one another
        int[][] not = {{2341, 3214}, {2341, 1234}, {2143, 2134}, {1234, 2134}, {2341, 2143}, {2134, 2341}, {1234, 1234}};
        for (int[] one : not) due("same(" + one[0] + "," + one[1] + ")", x.same(one[0], one[1]), 0);
        // the mirrored is another: turned one way, mirrored the other
        map(5, 14253, 41352);
        due("same mirrored", x.same(undoing(14253), undoing(41352)), 0);
        due("same itself", x.same(14253, 41352), 1);
        map(7, 2345671, 2134567);
        due("same of seven", x.same(7123456, 1234576), 1);
        due("same of seven, not", x.same(7123456, 1234765), 0);

        says("NONE: no such CODES (of n).");
        for (int code : NO_CODES) {
            refused("same(" + code + ",13254)", o -> o.same(code, 13254));
            refused("same(23451," + code + ")", o -> o.same(23451, code));
            refused("same(" + code + "," + code + ")", o -> o.same(code, code));
        }
        refused("same(231,213), of 3", o -> o.same(231, 213));
    }

    private static void label() {
        promise(18);
        says("The least r (its CODE) by which this MAP becomes that of CODES s and a;");
        map(1, 1, 1);
        due("label(1,1)", x.label(1, 1), 1);
        map(4, 2341, 2134);
        for (int r : every(4)) due("label by " + r, x.label(by(2341, r), by(2134, r)), r);
        // of many the least
        for (int[] m : new int[][] {{1234, 1234}, {2143, 1234}, {2143, 3412}, {2341, 1234}, {2134, 1243}, {2134, 2134}, {2314, 1234}}) {
            map(4, m[0], m[1]);
            for (int k : every(4)) {
                int least = 0;
                for (int r : every(4)) {
                    boolean brings = by(m[0], r) == by(m[0], k) && by(m[1], r) == by(m[1], k);
                    if (least == 0 && brings) least = r;
                }
                due("label of " + m[0] + " " + m[1] + " by " + k, x.label(by(m[0], k), by(m[1], k)), least);
            }
        }
        map(7, 2345671, 1234567);
        due("label of a round of seven", x.label(2345671, 1234567), 1234567);
        due("label of it, turned back", x.label(7123456, 1234567), 1765432);

        says("-2: none;");
        map(4, 2341, 2134);
        due("label(2341,1324)", x.label(2341, 1324), 2341);
        scene = o -> draw(o, 4, 2341, 2134);
        for (int[] one : new int[][] {{2341, 3214}, {2341, 1234}, {2143, 2134}, {2134, 2341}, {1234, 1234}}) {
            refused("label(" + one[0] + "," + one[1] + ")", -2, o -> o.label(one[0], one[1]));
        }

        says("NONE: no such CODES.");
        for (int code : NO_CODES) {
            refused("label(" + code + ",13254)", o -> o.label(code, 13254));
            refused("label(23451," + code + ")", o -> o.label(23451, code));
            refused("label(12345," + code + ")", o -> o.label(12345, code));
        }
        refused("label(231,213), of 3", o -> o.label(231, 213));
    }

    public static void main(String[] args) {
        code();
        type();
        cycles();
        along();
        count();
        counters();
        part();
        canon();
        point();
        same();
        label();
        end(9, 18);
    }
}
