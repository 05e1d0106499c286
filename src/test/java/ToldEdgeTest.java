import java.util.List;

/** The boundary cases that promises 1 to 8 (what is told) name, sentence by sentence. */
public final class ToldEdgeTest extends Edges {
    private static void start() {
        promise(1);
        says("n is 3; all DARTS stay.");
        row("count", fresh()::count, 3, 3, -2, 6, 1, 0, 0, 15, -2, 0, 0, 0, -1);
        row("code", x::code, 123, 123, 123, -1);
        due("dart 3", x.along(0, 3, 0), 3);
        due("dart 4", x.along(0, 4, 0), -1);
        rich(x);
        row("code of a new one behind", fresh()::code, 123, 123, 123);
        row("count of a new one behind", x::count, 3, 3, -2, 6, 1, 0, 0, 15, -2, 0, 0, 0);
    }

    // ---- the tape

    private static void feed() {
        promise(2);
        says("Twenty bytes come behind the tape, the highest of each int first: how many it has;");
        fresh();
        due("count(10), empty", x.count(10), 0);
        for (int k = 1; k <= 6; k++) {
            due("feed", x.feed(0, -1, LOW, HIGH, 7), 20 * k);
            due("count(10)", x.count(10), 20 * k);
        }
        // all are letters but for one: its place tells where it came
        for (int place = 0; place < 60; place++) {
            fresh();
            tape(x, "s".repeat(place) + "#" + "s".repeat(119 - place));
            due("walk with another byte at " + place, x.walk(1, 60), -1000 - place);
        }
        int[][] ints = {
            {0x23737373, 0}, {0x73237373, 1}, {0x73732373, 2}, {0x73737323, 3}, {0x737373FF, 3}, {0x73738073, 2}, {0x73F37373, 1},
            {0xF3737373, 0}, {-1, 0}, {LOW, 0}, {HIGH, 0}, {0, 0}
        };
        for (int[] one : ints) {
            fresh().feed(one[0], 0x73737373, 0x73737373, 0x73737373, 0x73737373);
            due("walk by an int " + one[0], x.walk(1, 4), -1000 - one[1]);
        }
        for (int k = 0; k < 5; k++) {
            int[] v = {0x73737373, 0x73737373, 0x73737373, 0x73737373, 0x73737373};
            v[k] = 0;
            fresh().feed(v[0], v[1], v[2], v[3], v[4]);
            due("walk by int " + k, x.walk(1, 20), -1000 - 4 * k);
        }
        // behind the tape, not ahead of it: twenty s (as two are), then a
        map(3, 231, 213);
        tape(x, "s".repeat(20));
        tape(x, "a".repeat(20));
        due("walk(2,21)", x.walk(2, 21), 2);
        due("feed of an emptied tape", x.feed(0, 0, 0, 0, 0), 20);

        says("NONE if that would be more than 120.");
        scene = o -> {
            draw(o, 7, 2345671, 2134567);
            tape(o, "saSfFAsaaSsafAsSSaaf".repeat(6));
        };
        refused("feed to 140", o -> o.feed(0x61616161, 0, 0, 0, 0));
        refused("feed to 140, twice", o -> Math.max(o.feed(0, 0, 0, 0, 0), o.feed(-1, 0, 0, 0, 0)));
        fresh();
        tape(x, "e" + " ".repeat(79));
        due("feed to 100", x.feed(0, 0, 0, 0, 0), 100);
        due("feed to 120", x.feed(0, 0, 0, 0, 0), 120);
        due("feed to 140", x.feed(0, 0, 0, 0, 0), -1);
        due("count(10)", x.count(10), 120);
        due("text(0,60)", x.text(0, 60), 123);
        due("feed to 20", x.feed(0, 0, 0, 0, 0), 20);
    }

    // ---- n, s, a

    private static void degree() {
        promise(3);
        says("n is that (1 to 7), all DARTS stay: what n was;");
        fresh();
        int was = 3;
        for (int n : new int[] {1, 2, 3, 4, 5, 6, 7, 7, 1, 1, 7, 3}) {
            due("degree(" + n + ")", x.degree(n), was);
            row("code of " + n, x::code, stays(n), stays(n), stays(n));
            due("count(0)", x.count(0), n);
            due("count(1)", x.count(1), n);
            x.drawn(n);
            was = n;
        }
        // the same n, and those next to it
        for (int n : new int[] {4, 5, 6}) {
            map(5, 23451, 13254);
            due("degree(" + n + ")", x.degree(n), 5);
            row("code", x::code, stays(n), stays(n), stays(n));
        }
        rich(fresh());
        x.degree(7);
        row("count from 9 on", w -> x.count(9 + w), 2, 40, 2);
        row("piece(0,..)", w -> x.piece(0, w), 4, 2341, 1243, 0);
        row("piece(1,..)", w -> x.piece(1, w), 6, 234561, 124365, 0);
        due("undo()", x.undo(), 1);
        row("code", x::code, 234561, 213465);

        says("NONE: no such n.");
        for (int n : new int[] {0, 8, -1, 9, LOW, HIGH}) refused("degree(" + n + ")", o -> o.degree(n));
        map(7, 2345671, 2134567);
        due("degree(8)", x.degree(8), -1);
        due("degree(0)", x.degree(0), -1);
        row("code", x::code, 2345671, 2134567);
        map(1, 1, 1);
        due("degree(0) of 1", x.degree(0), -1);
        due("count(0)", x.count(0), 1);
    }

    private static void set() {
        promise(4);
        says("s (which 0) or a (1) by its CODE: what it was;");
        fresh();
        due("set(0,231)", x.set(0, 231), 123);
        row("code", x::code, 231, 123);
        due("set(0,231) again", x.set(0, 231), 231);
        due("set(1,213)", x.set(1, 213), 123);
        row("code", x::code, 231, 213);
        due("set(0,123)", x.set(0, 123), 231);
        due("set(1,321)", x.set(1, 321), 213);
        row("code", x::code, 123, 321);
        int[] last = {1, 21, 321, 4321, 54321, 654321, 7654321};
        for (int n = 1; n <= 7; n++) {
            fresh().degree(n);
            due("the last of " + n, x.set(0, last[n - 1]), stays(n));
            due("the first of " + n, x.set(0, stays(n)), last[n - 1]);
            due("the last of " + n, x.set(1, last[n - 1]), stays(n));
            row("code", x::code, stays(n), last[n - 1]);
        }

        says("NONE: no such ones.");
        for (int which : new int[] {-1, 2, 3, LOW, HIGH}) {
            refused("set(" + which + ",23451)", o -> o.set(which, 23451));
            refused("set(" + which + ",1)", o -> o.set(which, 1));
        }
        int[] bad = {
            0, 1, -1, 1234, 123456, 12340, 12346, 12344, 11111, 2345, 54320, 64321, 10345, 123451, 112345, -12345, -54321, 1234567, LOW, HIGH, 2147454321
        };
        for (int code : bad) {
            for (int which = 0; which < 2; which++) {
                int w = which;
                refused("set(" + which + "," + code + ")", o -> o.set(w, code));
            }
        }
        int[] behind = {2, 22, 322, 4322, 54322, 654322, 7654322};
        int[] ahead = {0, 11, 122, 1233, 12344, 123455, 1234566};
        for (int n = 1; n <= 7; n++) {
            fresh().degree(n);
            due("behind the last of " + n, x.set(0, behind[n - 1]), -1);
            due("ahead of the first of " + n, x.set(0, ahead[n - 1]), -1);
            due("of n less 1", x.set(0, stays(n - 1)), -1);
            due("of n and 1", x.set(0, stays(n) * 10 + n + 1), -1);
            row("code of " + n, x::code, stays(n), stays(n));
        }
    }

    // ---- texts

    private static void text() {
        promise(5);
        says("s or a by the tape's first k bytes (1 to 60; empty then): its CODE;");
        map(4, 2341, 2134);
        due("text of s", text(0, "(1 3)"), 3214);
        row("code", x::code, 3214, 2134);
        due("text of a", text(1, "(2 4 3)"), 1423);
        row("code", x::code, 3214, 1423);
        // the first k of many bytes; all are gone then
        String[] first = {"e", "(1)", "(1 2)", "(1 2)(3 4)", "(1 2)(3 4) "};
        int[] due = {1234, 1234, 2134, 2143, 2143};
        for (int i = 0; i < 5; i++) {
            tape(x, first[i] + "()".repeat(59 - first[i].length() / 2));
            due("text(0," + first[i].length() + ")", x.text(0, first[i].length()), due[i]);
            due("count(10)", x.count(10), 0);
        }
        // k 1, k as many as there are, k 60 of 60 and of 120
        for (int[] of : new int[][] {{1, 20}, {19, 20}, {20, 20}, {21, 40}, {40, 40}, {59, 60}, {60, 60}, {60, 80}, {60, 120}}) {
            fresh();
            tape(x, "e" + " ".repeat(of[0] - 1) + "x".repeat(of[1] - of[0]));
            due("count(10)", x.count(10), of[1]);
            due("text(1," + of[0] + ") of " + of[1], x.text(1, of[0]), 123);
            due("count(10)", x.count(10), 0);
            due("text(1,1) again", x.text(1, 1), -1);
        }

        says("a FAULT: -1000 times its number, less its place (the tape is empty, all else stays);");
        String[] texts = {
            "x", "(1 2", "()", "(0)", "(6)", "(1 1)", "(1)x", "(" + " ".repeat(58) + ")", "(1" + " ".repeat(57) + "6", "(1" + " ".repeat(57) + "1",
            "e" + " ".repeat(58) + "e", "(1" + " ".repeat(58)
        };
        int[] faults = {-1000, -1004, -1001, -2001, -2001, -3003, -1003, -1059, -2059, -3059, -1059, -1060};
        for (int i = 0; i < texts.length; i++) {
            String text = texts[i];
            scene = o -> {
                rich(o);
                o.walk(1, 1);
                tape(o, text);
            };
            for (int which = 0; which < 2; which++) {
                int w = which;
                faulted("text(" + which + "," + text.length() + ") of " + text, faults[i], o -> o.text(w, text.length()));
            }
        }
        // what was read ahead of the FAULT is not there
        map(3, 231, 312);
        due("text(0,..)", text(0, "(1 2)x"), -1005);
        due("text(1,..)", text(1, "(1 2)(3 3)"), -3008);
        row("code", x::code, 231, 312);
        due("count(10)", x.count(10), 0);

        says("NONE: no such ones, it has not so many (the tape stays).");
        scene = o -> {
            rich(o);
            o.walk(1, 1);
            tape(o, "(1 2 3)" + " ".repeat(73));
        };
        for (int which : new int[] {-1, 2, LOW, HIGH}) refused("text(" + which + ",7)", o -> o.text(which, 7));
        for (int k : new int[] {0, -1, 61, 80, 81, LOW, HIGH}) refused("text(0," + k + ")", o -> o.text(0, k));
        for (int k : new int[] {0, -1, 61, 80, 81, LOW, HIGH}) refused("text(1," + k + ")", o -> o.text(1, k));
        scene = o -> tape(o, "(1 2 3)" + " ".repeat(13));
        refused("text(0,21) of 20", o -> o.text(0, 21));
        scene = o -> tape(o, "(1 2 3)" + " ".repeat(33));
        refused("text(0,41) of 40", o -> o.text(0, 41));
        scene = o -> draw(o, 3, 231, 213);
        refused("text(0,1) of none", o -> o.text(0, 1));
        refused("text(0,0) of none", o -> o.text(0, 0));
        tape(fresh(), "(1 2)");
        due("text(0,21)", x.text(0, 21), -1);
        due("count(10)", x.count(10), 20);
        due("text(0,5)", x.text(0, 5), 213);
        due("text(0,5) again", x.text(0, 5), -1);
    }

    // ---- draws and operations

    /** CODE of the next by DRAWS; lot[0] is X. */
    private static int shuffled(int n, long[] lot) {
        int[] at = new int[n + 1];
        for (int dart = 1; dart <= n; dart++) at[dart] = dart;
        for (int dart = n; dart >= 2; dart--) {
            lot[0] = (25173 * lot[0] + 13849) % 65536;
            int other = (int) (lot[0] / 4 % dart + 1);
            int stood = at[dart];
            at[dart] = at[other];
            at[other] = stood;
        }
        int code = 0;
        for (int dart = 1; dart <= n; dart++) code = 10 * code + at[dart];
        return code;
    }

    private static void drawn() {
        promise(6);
        says("s and a by DRAWS: s, then a: from x = n down to 2 what stands at x and what stands at (a DRAW of x and 1) change places, DARTS standing at their numbers ahead of that: CODE of s.");
        // X is 13849, 48742, 31223, 17180; through 4, cut: 3462, 12185, 7805, 4295
        fresh().degree(2);
        due("drawn(0) of 2", x.drawn(0), 21);
        row("code", x::code, 21, 12);
        x.degree(3);
        due("drawn(0) of 3", x.drawn(0), 321);
        row("code", x::code, 321, 123);
        x.degree(1);
        due("drawn(0) of 1", x.drawn(0), 1);
        row("code", x::code, 1, 1);
        // what stood ahead is nothing to it
        map(3, 231, 213);
        due("drawn(0) of 3", x.drawn(0), 321);
        row("code", x::code, 321, 123);

        says("A DRAW of m: X = (25173 X + 13849) modulo 65536 (X is the lowest 16 bits of the seed at first): X through 4, cut, modulo m.");
        for (int n = 1; n <= 7; n++) {
            for (int seed : new int[] {0, 1, 2, 3, 4, 99, 32767, 32768, 65534, 65535, 65536, 65537, -1, -2, -65536, -65537, LOW, LOW + 1, HIGH, HIGH - 1}) {
                long[] lot = {seed & 65535};
                int s = shuffled(n, lot);
                int a = shuffled(n, lot);
                map(n, stays(n), stays(n));
                due("drawn(" + seed + ") of " + n, x.drawn(seed), s);
                row("code", x::code, s, a);
            }
        }
        fresh().degree(7);
        for (int[] like : new int[][] {{0, 65536}, {0, LOW}, {65535, -1}, {65535, HIGH}, {1, -65535}, {32768, -32768}}) {
            int s = x.drawn(like[0]);
            int a = x.code(1);
            due("drawn(" + like[1] + ")", x.drawn(like[1]), s);
            due("a of drawn(" + like[1] + ")", x.code(1), a);
        }
        rich(fresh());
        x.drawn(5);
        row("count from 9 on", w -> x.count(9 + w), 2, 40, 2);
        due("count(0)", x.count(0), 5);
    }

    private static void operate() {
        promise(7);
        says("An OPERATION (0 to 3) is done: CODE of s then;");
        // f is 2341 and 2134 one behind the other undone: 1423
        int[][] behind = {{2134, 2341}, {4123, 2134}, {2134, 1423}, {1423, 2134}};
        for (int what = 0; what < 4; what++) {
            map(4, 2341, 2134);
            due("operate(" + what + ")", x.operate(what), behind[what][0]);
            row("code after operate(" + what + ")", x::code, behind[what][0], behind[what][1]);
        }
        // COLOURS and MIRROR twice, TURN and FACES as they go on
        map(4, 2341, 2134);
        row("operate(0)", i -> x.operate(0), 2134, 2341);
        row("operate(1)", i -> x.operate(1), 4123, 2341);
        row("operate(3)", i -> x.operate(3), faces(2341, 2134), faces(1423, 2134));
        map(4, 2341, 2134);
        row("operate(2)", i -> x.operate(2), 2134, 1423, faces(2134, 1423));

        says("NONE: no such one.");
        for (int what : new int[] {-1, 4, 5, LOW, HIGH}) refused("operate(" + what + ")", o -> o.operate(what));
    }

    private static void tidy() {
        promise(8);
        says("s and a become those of CANON: CODE of s then.");
        for (int n = 1; n <= 3; n++) for (int s : every(n)) for (int a : every(n)) tidied(n, s, a);
        for (int s : List.of(4321, 3412, 2143)) for (int a : every(4)) tidied(4, s, a);
        tidied(7, 1234567, 1234567);
        tidied(7, 7654321, 1726354);
        // it is one of the CLASS, and stays when it is tidied
        map(5, 53142, 14253);
        int s = x.tidy();
        int a = x.code(1);
        due("same(53142,14253)", x.same(53142, 14253), 1);
        due("tidy() again", x.tidy(), s);
        due("code(1)", x.code(1), a);
        rich(fresh());
        x.tidy();
        row("count from 9 on", w -> x.count(9 + w), 2, 40, 2);
    }

    private static void tidied(int n, int s, int a) {
        int[] least = canon(n, s, a);
        map(n, s, a);
        due("tidy() of " + s + " " + a, x.tidy(), least[0]);
        row("code after tidy() of " + s + " " + a, x::code, least[0], least[1], faces(least[0], least[1]));
    }

    public static void main(String[] args) {
        start();
        feed();
        degree();
        set();
        text();
        drawn();
        operate();
        tidy();
        end(1, 8);
    }
}
