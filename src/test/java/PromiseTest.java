/** Each promise with ordinary calls, the edges that the document names, and wrong calls. */
public final class PromiseTest {
    private static int wrong = 0;
    private static int promise = 0;
    private static DrawnMaps x;

    private static void due(String call, long got, long want) {
        if (got != want) {
            wrong++;
            System.out.println("promise " + promise + ": " + call + " answered " + got + ", due is " + want);
        }
    }

    /** A new object with n, s, a. */
    private static void map(int number, int n, int s, int a) {
        promise = number;
        x = new DrawnMaps();
        x.degree(n);
        due("set s", x.set(0, s) >= 0 ? 1 : 0, 1);
        due("set a", x.set(1, a) >= 0 ? 1 : 0, 1);
    }

    /** A text comes to the tape, with letters x behind. */
    private static void tape(String text) {
        for (int from = 0; from < text.length(); from += 20) {
            int[] v = new int[5];
            for (int i = 0; i < 20; i++) {
                int sign = from + i < text.length() ? text.charAt(from + i) : 'x';
                v[i / 4] = v[i / 4] << 8 | sign;
            }
            x.feed(v[0], v[1], v[2], v[3], v[4]);
        }
    }

    private static int text(int which, String text) {
        tape(text);
        return x.text(which, text.length());
    }

    private static int walk(int dart, String word) {
        tape(word);
        return x.walk(dart, word.length());
    }

    private static int made(String word, int what) {
        tape(word);
        return x.made(word.length(), what);
    }

    private static void start() {
        promise = 1;
        x = new DrawnMaps();
        due("NONE", DrawnMaps.NONE, -1);
        due("count(0)", x.count(0), 3);
        for (int w = 0; w < 3; w++) due("code(" + w + ")", x.code(w), 123);
        for (int w = 9; w < 12; w++) due("count(" + w + ")", x.count(w), 0);
    }

    private static void feed() {
        promise = 2;
        x = new DrawnMaps();
        for (int k = 1; k <= 6; k++) due("feed", x.feed(1, 2, 3, 4, 5), 20 * k);
        due("feed too many", x.feed(1, 2, 3, 4, 5), -1);
        due("count(10)", x.count(10), 120);
        map(2, 3, 231, 123);
        // -1852730991 has a highest byte above 127: 0x91919191
        due("feed", x.feed('s' << 24 | 's' << 16 | 'a' << 8 | 'S', -1852730991, 0, 0, 0), 20);
        due("walk(1,4)", x.walk(1, 4), 2);
        due("feed", x.feed('s' << 24 | 's' << 16 | 'a' << 8 | 'S', -1852730991, 0, 0, 0), 20);
        due("walk(1,5)", x.walk(1, 5), -1004);
    }

    private static void degree() {
        map(3, 3, 231, 132);
        due("degree(0)", x.degree(0), -1);
        due("degree(8)", x.degree(8), -1);
        due("degree(-1)", x.degree(-1), -1);
        due("code(0)", x.code(0), 231);
        x.paste();
        due("degree(7)", x.degree(7), 3);
        due("code(0)", x.code(0), 1234567);
        due("code(1)", x.code(1), 1234567);
        due("degree(1)", x.degree(1), 7);
        due("code(0)", x.code(0), 1);
        due("count(9)", x.count(9), 1);
        due("degree(3)", x.degree(3), 1);
        x.set(0, 231);
        due("degree(3) again", x.degree(3), 3);
        due("code(0)", x.code(0), 123);
    }

    private static void set() {
        promise = 4;
        x = new DrawnMaps();
        due("set(0,231)", x.set(0, 231), 123);
        due("set(0,312)", x.set(0, 312), 231);
        due("set(1,132)", x.set(1, 132), 123);
        due("set(1,213)", x.set(1, 213), 132);
        int[] bad = {0, -1, -231, 12, 1234, 124, 113, 103, 1023, Integer.MIN_VALUE, Integer.MAX_VALUE};
        for (int code : bad) due("set(0," + code + ")", x.set(0, code), -1);
        due("set(2,231)", x.set(2, 231), -1);
        due("set(-1,231)", x.set(-1, 231), -1);
        due("code(0)", x.code(0), 312);
        due("code(1)", x.code(1), 213);
    }

    private static void text() {
        promise = 5;
        x = new DrawnMaps();
        x.degree(5);
        due("(1 2 3)", text(0, "(1 2 3)"), 23145);
        due("(3 1)(2 5)", text(1, "(3 1)(2 5)"), 35142);
        due("blanks", text(0, "  ( 4  1 ) (2 )  (3)"), 42315);
        due("code(0)", x.code(0), 42315);
        due("e", text(0, "e"), 12345);
        due(" e ", text(1, "  e   "), 12345);
        due("a second digit", text(0, "(12)"), -1002);
        due("a second digit of a told one", text(0, "(1 22)"), -1004);
        due("empty", text(0, "()"), -1001);
        due("empty with blanks", text(0, "(  )"), -1003);
        due("open at the end", text(0, "(1 2"), -1004);
        due("just opened", text(0, " ("), -1002);
        due("only blanks", text(0, "   "), -1003);
        due("a number outside", text(0, "(1)2"), -1003);
        due("opened twice", text(0, "(1 (2)"), -1003);
        due("e behind", text(0, "(1) e"), -1004);
        due("more behind e", text(0, "e (1)"), -1002);
        due("e twice", text(0, "ee"), -1001);
        due("closed twice", text(0, "(1))"), -1003);
        due("another byte", text(0, "(1,2)"), -1002);
        due("another byte for a number", text(0, "(,1)"), -1001);
        due("a letter for a number", text(0, "(e)"), -1001);
        due("a colon for a number", text(0, "(1 :)"), -1003);
        due("a letter ahead", text(0, "E"), -1000);
        due("no such number", text(0, "(1 6)"), -2003);
        due("nought", text(0, "(0)"), -2001);
        due("nine", text(0, "(91)"), -2001);
        due("no such number outside", text(0, "9"), -1000);
        due("told already", text(0, "(1 2)(3 2)"), -3008);
        due("told already in its cycle", text(0, "(1 1)"), -3003);
        due("code(0)", x.code(0), 12345);
        due("count(10)", x.count(10), 0);
        textRefused();
    }

    private static void textRefused() {
        tape("(1 2)");
        due("text(2,5)", x.text(2, 5), -1);
        due("text(-1,5)", x.text(-1, 5), -1);
        due("text(0,0)", x.text(0, 0), -1);
        due("text(0,-1)", x.text(0, -1), -1);
        due("text(0,21)", x.text(0, 21), -1);
        due("count(10)", x.count(10), 20);
        due("text(0,5)", x.text(0, 5), 21345);
        due("count(10)", x.count(10), 0);
        due("text(0,1)", x.text(0, 1), -1);
        String sixty = "(2 3)" + " ".repeat(55);
        tape(sixty + "    ");
        due("text(0,61)", x.text(0, 61), -1);
        due("count(10)", x.count(10), 80);
        due("text(0,60)", x.text(0, 60), 13245);
        due("count(10)", x.count(10), 0);
    }

    private static void drawn() {
        promise = 6;
        x = new DrawnMaps();
        due("drawn(0)", x.drawn(0), 321);
        due("code(1)", x.code(1), 123);
        x.degree(7);
        due("drawn(1)", x.drawn(1), 3164725);
        due("code(1)", x.code(1), 3457612);
        due("drawn(-1)", x.drawn(-1), 6175342);
        due("code(1)", x.code(1), 3145726);
        due("drawn(65535)", x.drawn(65535), 6175342);
        x.degree(1);
        due("drawn(9)", x.drawn(9), 1);
    }

    private static void operate() {
        map(7, 4, 2341, 2134);
        // f: 1 -> 2 -> 1, 2 -> 3, 3 -> 4, 4 -> 1 -> 2 undone
        due("code(2)", x.code(2), 1423);
        due("operate(0)", x.operate(0), 2134);
        due("code(1)", x.code(1), 2341);
        x.operate(0);
        due("operate(1)", x.operate(1), 4123);
        due("code(1)", x.code(1), 2134);
        x.operate(1);
        due("operate(2)", x.operate(2), 2134);
        due("code(1)", x.code(1), 1423);
        map(7, 4, 2341, 2134);
        due("operate(3)", x.operate(3), 1423);
        due("code(1)", x.code(1), 2134);
        due("operate(4)", x.operate(4), -1);
        due("operate(-1)", x.operate(-1), -1);
        due("code(0)", x.code(0), 1423);
    }

    private static void tidy() {
        map(8, 3, 213, 132);
        due("tidy()", x.tidy(), 132);
        due("code(1)", x.code(1), 213);
        due("tidy() again", x.tidy(), 132);
        map(8, 5, 54321, 12345);
        due("tidy() apart", x.tidy(), 13254);
        due("code(1)", x.code(1), 12345);
    }

    private static void codes() {
        map(9, 4, 2341, 2134);
        due("code(0)", x.code(0), 2341);
        due("code(1)", x.code(1), 2134);
        due("code(2)", x.code(2), 1423);
        due("code(3)", x.code(3), -1);
        due("code(-1)", x.code(-1), -1);
        promise = 10;
        due("type(0)", x.type(0), 4);
        due("type(1)", x.type(1), 211);
        due("type(2)", x.type(2), 31);
        due("type(3)", x.type(3), -1);
        due("type(-1)", x.type(-1), -1);
    }

    private static void cycles() {
        map(11, 7, 2143567, 2345176);
        due("cycles(0,0)", x.cycles(0, 0), 5);
        due("cycles(0,1)", x.cycles(0, 1), 3);
        due("cycles(0,2)", x.cycles(0, 2), 2);
        due("cycles(0,3)", x.cycles(0, 3), 0);
        due("cycles(1,0)", x.cycles(1, 0), 2);
        due("cycles(1,1)", x.cycles(1, 1), 0);
        due("cycles(1,2)", x.cycles(1, 2), 10);
        due("cycles(1,3)", x.cycles(1, 3), 1);
        due("cycles(1,4)", x.cycles(1, 4), -1);
        due("cycles(1,-1)", x.cycles(1, -1), -1);
        due("cycles(3,0)", x.cycles(3, 0), -1);
        x.set(1, 2314567);
        x.set(0, 1235674);
        due("cycles(2,2)", x.cycles(2, 2), 12);
        promise = 12;
        due("along(1,1,2)", x.along(1, 1, 2), 3);
        due("along(1,2,0)", x.along(1, 2, 0), 2);
        due("along(1,2,3)", x.along(1, 2, 3), -2);
        due("along(1,4,1)", x.along(1, 4, 1), -2);
        due("along(2,1,1)", x.along(2, 1, 1), 3);
        due("along(1,8,0)", x.along(1, 8, 0), -1);
        due("along(1,0,9)", x.along(1, 0, 9), -1);
        due("along(1,1,-1)", x.along(1, 1, -1), -1);
        due("along(3,1,9)", x.along(3, 1, 9), -1);
    }

    private static void count() {
        // a map with GROUP of 168: two darts' squares, triangles, one face of seven
        map(13, 7, 1235476, 2451637);
        int[] want = {7, 1, 0, 1, 168, 0, 1, 0, 2, 0, 0, 0};
        for (int w = 0; w < want.length; w++) due("count(" + w + ")", x.count(w), want[w]);
        due("count(12)", x.count(12), -1);
        due("count(-1)", x.count(-1), -1);
        map(13, 6, 234561, 123456);
        int[] ring = {6, 1, 0, 6, 6, 2, 0, 10, 1};
        for (int w = 0; w < ring.length; w++) due("count(" + w + ") of a ring", x.count(w), ring[w]);
        map(13, 4, 2134, 1243);
        int[] apart = {4, 2, -2, 4, 4, 0, 0, 3, -2};
        for (int w = 0; w < apart.length; w++) due("count(" + w + ") apart", x.count(w), apart[w]);
        x.degree(1);
        int[] one = {1, 1, 0, 1, 1, 0, 1, 15, 1};
        for (int w = 0; w < one.length; w++) due("count(" + w + ") of one", x.count(w), one[w]);
        // seven darts on one black, one white, one face: genus 3
        map(13, 7, 2345671, 2345671);
        due("count(2)", x.count(2), 3);
        x.paste();
        x.keep();
        tape("s");
        due("count(9)", x.count(9), 1);
        due("count(10)", x.count(10), 20);
        due("count(11)", x.count(11), 1);
    }

    /** Classes of one passport with their GROUPS and AUTS: which are siblings. */
    private static void siblings() {
        promise = 13;
        x = new DrawnMaps();
        siblings(5, 41, 41, 5, new int[] {120, 20, 20}, new int[] {1, 1, 1}, new int[] {1, 2, 2});
        siblings(5, 5, 5, 5, new int[] {5, 60, 5, 5}, new int[] {5, 1, 5, 5}, new int[] {3, 1, 3, 3});
        siblings(6, 2211, 6, 6, new int[] {36, 24, 120}, new int[] {1, 2, 1}, new int[] {1, 1, 1});
    }

    private static void siblings(int n, int t1, int t2, int t3, int[] orders, int[] auts, int[] want) {
        x.degree(n);
        due("classes", x.classes(t1, t2, t3, -1, 0), want.length);
        for (int i = 0; i < want.length; i++) {
            due("class's group", x.classes(t1, t2, t3, i, 3), orders[i]);
            due("class's auts", x.classes(t1, t2, t3, i, 2), auts[i]);
            int a = x.classes(t1, t2, t3, i, 1);
            x.set(0, x.classes(t1, t2, t3, i, 0));
            x.set(1, a);
            due("count(8) of " + i, x.count(8), want[i]);
        }
    }

    private static void part() {
        // 1 4 6: three-cycles in one way (genus 1); 2 5 joined; 3 7 alone
        map(14, 7, 4236517, 4536217);
        due("part(6,0)", x.part(6, 0), 1);
        due("part(4,1)", x.part(4, 1), 3);
        due("part(4,2)", x.part(4, 2), 1);
        due("part(5,0)", x.part(5, 0), 2);
        due("part(5,1)", x.part(5, 1), 2);
        due("part(5,2)", x.part(5, 2), 0);
        due("part(7,0)", x.part(7, 0), 7);
        due("part(7,1)", x.part(7, 1), 1);
        due("part(8,0)", x.part(8, 0), -1);
        due("part(0,0)", x.part(0, 0), -1);
        due("part(1,3)", x.part(1, 3), -1);
        due("part(1,-1)", x.part(1, -1), -1);
    }

    private static void canon() {
        map(15, 3, 213, 132);
        due("canon(0)", x.canon(0), 132);
        due("canon(1)", x.canon(1), 213);
        due("canon(2)", x.canon(2), 312);
        due("canon(3)", x.canon(3), -1);
        due("canon(-1)", x.canon(-1), -1);
        due("code(0)", x.code(0), 213);
        promise = 16;
        x.degree(6);
        x.set(0, 426153);
        due("point(0,0,0)", x.point(0, 0, 0), 1);
        due("point(0,0,1)", x.point(0, 0, 1), 2 + 0);
        due("point(0,1,0)", x.point(0, 1, 0), 2);
        due("point(0,1,1)", x.point(0, 1, 1), 1);
        due("point(0,2,0)", x.point(0, 2, 0), 3);
        due("point(0,2,1)", x.point(0, 2, 1), 2);
        due("point(0,3,0)", x.point(0, 3, 0), 5);
        due("point(0,4,0)", x.point(0, 4, 0), -2);
        due("point(1,5,0)", x.point(1, 5, 0), 6);
        due("point(0,4,2)", x.point(0, 4, 2), -1);
        due("point(0,-1,0)", x.point(0, -1, 0), -1);
        due("point(3,0,0)", x.point(3, 0, 0), -1);
    }

    private static void same() {
        map(17, 4, 2341, 2134);
        due("same itself", x.same(2341, 2134), 1);
        due("same turned", x.same(2341, 1324), 1);
        due("same across", x.same(2341, 3214), 0);
        due("same other type", x.same(2143, 2134), 0);
        due("same(2342,2134)", x.same(2342, 2134), -1);
        due("same(2341,0)", x.same(2341, 0), -1);
        due("same of 3", x.same(231, 213), -1);
        promise = 18;
        due("label itself", x.label(2341, 2134), 1234);
        due("label turned", x.label(2341, 1324), 2341);
        due("label across", x.label(2341, 3214), -2);
        due("label no code", x.label(2341, 11), -1);
        // the least of many
        x.set(0, 2143);
        x.set(1, 1234);
        due("label of many", x.label(4321, 1234), 1423);
    }

    private static void group() {
        map(19, 4, 2341, 1432);
        // the eight that turn and mirror a square
        due("ofType(1111)", x.ofType(1111), 1);
        due("ofType(4)", x.ofType(4), 2);
        due("ofType(22)", x.ofType(22), 3);
        due("ofType(211)", x.ofType(211), 2);
        due("ofType(31)", x.ofType(31), 0);
        due("ofType(13)", x.ofType(13), -1);
        due("ofType(3)", x.ofType(3), -1);
        due("ofType(0)", x.ofType(0), -1);
        promise = 20;
        due("elements(0)", x.elements(0), 2);
        due("elements(1)", x.elements(1), 1);
        due("elements(2)", x.elements(2), 5);
        due("elements(4)", x.elements(4), 2);
        due("elements(3)", x.elements(3), 0);
        due("elements(max)", x.elements(Integer.MAX_VALUE), 0);
        due("elements(-1)", x.elements(-1), -1);
        promise = 21;
        due("length(1234)", x.length(1234), 0);
        due("length(4123)", x.length(4123), 1);
        due("length(3412)", x.length(3412), 2);
        due("length(2143)", x.length(2143), 2);
        due("length(3214)", x.length(3214), 3);
        due("length(2134)", x.length(2134), -2);
        due("length(2133)", x.length(2133), -1);
        due("length(123)", x.length(123), -1);
        // another map, another group
        x.set(1, 2134);
        due("length(2134)", x.length(2134), 1);
        promise = 19;
        due("ofType(31)", x.ofType(31), 8);
    }

    private static void block() {
        map(22, 6, 234561, 123456);
        int[][] want = {{2, 9, 231, 123}, {3, 21, 21, 12}};
        for (int i = 0; i < 2; i++) {
            for (int w = 0; w < 4; w++) due("block(" + i + "," + w + ")", x.block(i, w), want[i][w]);
        }
        due("block(2,0)", x.block(2, 0), -2);
        due("block(2,4)", x.block(2, 4), -1);
        due("block(0,-1)", x.block(0, -1), -1);
        due("block(-1,0)", x.block(-1, 0), -1);
        map(22, 4, 2143, 3412);
        for (int i = 0; i < 3; i++) due("block(" + i + ",1)", x.block(i, 1), new int[] {3, 5, 9}[i]);
        due("block(0,2)", x.block(0, 2), 12);
        due("block(0,3)", x.block(0, 3), 21);
        due("block(3,0)", x.block(3, 0), -2);
        // sets come as 1 2, 5 6, 3 4 by s, but are numbered by their least darts
        map(22, 6, 561234, 213456);
        due("block(0,2)", x.block(0, 2), 312);
        due("block(0,3)", x.block(0, 3), 123);
        due("block(1,0)", x.block(1, 0), -2);
        map(22, 4, 2143, 1234);
        due("block(0,0) apart", x.block(0, 0), -2);
    }

    private static void types() {
        promise = 23;
        x = new DrawnMaps();
        int[] many = {1, 2, 3, 5, 7, 11, 15};
        for (int n = 1; n <= 7; n++) {
            x.degree(n);
            due("kinds(-1) of " + n, x.kinds(-1), many[n - 1]);
        }
        int[] seven = {1111111, 211111, 31111, 22111, 4111, 3211, 2221, 511, 421, 331, 322, 61, 52, 43, 7};
        for (int i = 0; i < 15; i++) due("kinds(" + i + ")", x.kinds(i), seven[i]);
        due("kinds(15)", x.kinds(15), -2);
        due("kinds(-2)", x.kinds(-2), -1);
        promise = 24;
        int[] sizes = {1, 21, 70, 105, 210, 420, 105, 504, 630, 280, 210, 840, 504, 420, 720};
        for (int i = 0; i < 15; i++) due("size(" + seven[i] + ")", x.size(seven[i]), sizes[i]);
        int[] bad = {0, -7, 6, 12, 124, 70, 8, 601, 2222, Integer.MAX_VALUE};
        for (int t : bad) due("size(" + t + ")", x.size(t), -1);
    }

    private static void character() {
        promise = 25;
        x = new DrawnMaps();
        x.degree(4);
        int[] types = {1111, 211, 22, 31, 4};
        int[] rows = {4, 31, 22, 211, 1111};
        int[][] table = {{1, 1, 1, 1, 1}, {3, 1, -1, 0, -1}, {2, 0, 2, -1, 0}, {3, -1, -1, 0, 1}, {1, -1, 1, 1, -1}};
        for (int i = 0; i < 5; i++) {
            for (int k = 0; k < 5; k++) {
                due("character(" + rows[i] + "," + types[k] + ")", x.character(rows[i], types[k]), table[i][k]);
            }
        }
        due("character(3,4)", x.character(3, 4), -1000000);
        due("character(4,13)", x.character(4, 13), -1000000);
        x.degree(7);
        due("character(421,1111111)", x.character(421, 1111111), 35);
        due("character(331,7)", x.character(331, 7), 0);
        due("character(61,7)", x.character(61, 7), -1);
    }

    private static void triples() {
        promise = 26;
        x = new DrawnMaps();
        x.degree(7);
        for (int w = 0; w < 3; w++) due("triples " + w, x.triples(22111, 331, 7, w), 10080);
        due("triples odd", x.triples(211111, 7, 7, 0), 0);
        due("triples odd", x.triples(211111, 7, 7, 2), 0);
        due("triples apart", x.triples(1111111, 61, 61, 0), 840);
        due("triples apart", x.triples(1111111, 61, 61, 1), 0);
        due("triples apart", x.triples(1111111, 61, 61, 2), 840);
        due("triples what 3", x.triples(7, 7, 7, 3), -1);
        due("triples what -1", x.triples(7, 7, 7, -1), -1);
        due("triples(6,7,7)", x.triples(6, 7, 7, 0), -1);
        due("triples(7,6,7)", x.triples(7, 6, 7, 1), -1);
        due("triples(7,7,6)", x.triples(7, 7, 6, 2), -1);
        promise = 27;
        int[][] want = {{1235476, 2451637, 1, 168, 0}, {1235476, 2461357, 1, 168, 0}};
        due("classes -1", x.classes(22111, 331, 7, -1, 4), 2);
        for (int i = 0; i < 2; i++) {
            for (int w = 0; w < 5; w++) due("class " + i + " " + w, x.classes(22111, 331, 7, i, w), want[i][w]);
        }
        due("classes 2", x.classes(22111, 331, 7, 2, 0), -2);
        due("classes 2, 5", x.classes(22111, 331, 7, 2, 5), -1);
        due("classes 0, -1", x.classes(22111, 331, 7, 0, -1), -1);
        due("classes -2", x.classes(22111, 331, 7, -2, 0), -1);
        due("classes(22,..)", x.classes(22, 331, 7, 0, 0), -1);
        due("classes(..,33,..)", x.classes(22111, 33, 7, 0, 0), -1);
        due("classes(..,8)", x.classes(22111, 331, 8, 0, 0), -1);
        due("classes none", x.classes(211111, 7, 7, -1, 0), 0);
        due("classes none, 0", x.classes(211111, 7, 7, 0, 0), -2);
        due("classes most", x.classes(61, 61, 7, -1, 0), 40);
    }

    private static void mass() {
        promise = 28;
        x = new DrawnMaps();
        x.degree(4);
        // one class of AUTS 4 and nothing else
        due("mass top", x.mass(4, 1111, 4, 0), 1);
        due("mass bottom", x.mass(4, 1111, 4, 1), 4);
        due("mass of none, top", x.mass(211, 211, 1111, 0), 0);
        due("mass of none, bottom", x.mass(211, 211, 1111, 1), 1);
        due("mass what 2", x.mass(4, 1111, 4, 2), -1);
        due("mass what -1", x.mass(4, 1111, 4, -1), -1);
        due("mass no type", x.mass(4, 111, 4, 0), -1);
        x.degree(7);
        due("mass 2 classes", x.mass(22111, 331, 7, 0), 2);
        due("mass 2 classes", x.mass(22111, 331, 7, 1), 1);
        promise = 29;
        x.degree(3);
        due("genera(3,3,0)", x.genera(3, 3, 0), 2);
        due("genera(3,3,1)", x.genera(3, 3, 1), 2);
        due("genera(3,3,2)", x.genera(3, 3, 2), 0);
        due("genera(21,21,0)", x.genera(21, 21, 0), 6);
        due("genera(3,3,4)", x.genera(3, 3, 4), -1);
        due("genera(3,3,-1)", x.genera(3, 3, -1), -1);
        due("genera(3,4,0)", x.genera(3, 4, 0), -1);
        due("genera(4,3,0)", x.genera(4, 3, 0), -1);
        x.degree(7);
        due("genera(7,7,3)", x.genera(7, 7, 3), 720 * 180);
        promise = 30;
        x.degree(3);
        due("thirds -1", x.thirds(21, 21, -1), 2);
        due("thirds 0", x.thirds(21, 21, 0), 111);
        due("thirds 1", x.thirds(21, 21, 1), 3);
        due("thirds 2", x.thirds(21, 21, 2), -2);
        due("thirds -2", x.thirds(21, 21, -2), -1);
        due("thirds no type", x.thirds(21, 20, -1), -1);
        due("thirds no type", x.thirds(0, 21, 0), -1);
    }

    private static void family() {
        map(31, 3, 213, 132);
        // types 21, 21, 3 in any order
        int[][] want = {{132, 213}, {132, 231}, {231, 132}};
        due("family(-1,0)", x.family(-1, 0), 3);
        for (int i = 0; i < 3; i++) {
            for (int w = 0; w < 2; w++) due("family(" + i + "," + w + ")", x.family(i, w), want[i][w]);
        }
        due("family(3,0)", x.family(3, 0), -2);
        due("family(3,2)", x.family(3, 2), -1);
        due("family(0,-1)", x.family(0, -1), -1);
        due("family(-2,0)", x.family(-2, 0), -1);
        due("code(0)", x.code(0), 213);
        map(31, 7, 1235476, 2451637);
        due("family of twelve", x.family(-1, 1), 12);
        int[] blacks = new int[12];
        int[] whites = new int[12];
        for (int i = 0; i < 12; i++) {
            blacks[i] = x.family(i, 0);
            whites[i] = x.family(i, 1);
            boolean rises = i == 0 || blacks[i] > blacks[i - 1] || blacks[i] == blacks[i - 1] && whites[i] > whites[i - 1];
            due("family rises at " + i, rises ? 1 : 0, 1);
        }
        for (int i = 0; i < 12; i++) {
            x.set(0, blacks[i]);
            x.set(1, whites[i]);
            for (int k = 0; k < 12; k++) due("family of " + i, x.family(k, 1), whites[k]);
        }
    }

    private static void walk() {
        map(32, 4, 2341, 2134);
        due("s", walk(4, "s"), 1);
        due("sa", walk(4, "sa"), 2);
        due("saf", walk(4, "saf"), 4);
        due("S", walk(1, "S"), 4);
        due("A", walk(1, "A"), 2);
        due("F", walk(2, "F"), 3);
        due("f", walk(2, "f"), 4);
        due("a fault", walk(2, "ssSx"), -1003);
        due("count(10)", x.count(10), 0);
        tape("ssb");
        due("walk(0,2)", x.walk(0, 2), -1);
        due("walk(5,2)", x.walk(5, 2), -1);
        due("walk(1,0)", x.walk(1, 0), -1);
        due("walk(1,21)", x.walk(1, 21), -1);
        due("count(10)", x.count(10), 20);
        due("walk(1,2)", x.walk(1, 2), 3);
        due("count(10)", x.count(10), 0);
        due("walk(1,1)", x.walk(1, 1), -1);
        tape("s".repeat(61));
        due("walk(1,61)", x.walk(1, 61), -1);
        due("walk(1,60)", x.walk(1, 60), 1);
        promise = 33;
        due("made sa, 0", made("sa", 0), 1342);
        due("made sa, 1", made("sa", 1), 31);
        due("made sa, 2", made("sa", 2), 2);
        due("made f, 2", made("f", 2), 2);
        due("made sS, 2", made("sS", 2), 0);
        due("made SFa, 0", made("SFa", 0), 1234);
        due("a fault", made("s ", 0), -1001);
        due("count(10)", x.count(10), 0);
        tape("s");
        due("made what 3", x.made(1, 3), -1);
        due("made what -1", x.made(1, -1), -1);
        due("made 0", x.made(0, 0), -1);
        due("made 21", x.made(21, 0), -1);
        due("made 1", x.made(1, 0), 2341);
    }

    private static void power() {
        map(34, 6, 231546, 123456);
        due("power(0,0)", x.power(0, 0), 123456);
        due("power(0,1)", x.power(0, 1), 231546);
        due("power(0,2)", x.power(0, 2), 312456);
        due("power(0,3)", x.power(0, 3), 123546);
        due("power(0,max)", x.power(0, Integer.MAX_VALUE), 231546);
        due("power(2,1)", x.power(2, 1), 312546);
        due("power(0,-1)", x.power(0, -1), -1);
        due("power(3,1)", x.power(3, 1), -1);
        promise = 35;
        map(35, 4, 1234, 2143);
        due("roots(0,1,-1)", x.roots(0, 1, -1), 1);
        due("roots(0,2,-1)", x.roots(0, 2, -1), 10);
        due("roots(0,12,-1)", x.roots(0, 12, -1), 24);
        due("roots(0,2,1)", x.roots(0, 2, 1), 1243);
        due("roots(1,2,-1)", x.roots(1, 2, -1), 2);
        due("roots(1,2,0)", x.roots(1, 2, 0), 3421);
        due("roots(1,2,1)", x.roots(1, 2, 1), 4312);
        due("roots(1,2,2)", x.roots(1, 2, 2), -2);
        due("roots(1,4,-1)", x.roots(1, 4, -1), 0);
        due("roots(1,4,0)", x.roots(1, 4, 0), -2);
        due("roots(0,0,0)", x.roots(0, 0, 0), -1);
        due("roots(0,13,0)", x.roots(0, 13, 0), -1);
        due("roots(0,1,-2)", x.roots(0, 1, -2), -1);
        due("roots(3,1,0)", x.roots(3, 1, 0), -1);
    }

    private static void reckon() {
        promise = 36;
        x = new DrawnMaps();
        due("reckon(0)", x.reckon(0, 213, 132), 312);
        due("reckon(1)", x.reckon(1, 213, 132), 321);
        due("reckon(2)", x.reckon(2, 213, 132), 231);
        due("reckon(3)", x.reckon(3, 213, 132), 0);
        due("reckon(3)", x.reckon(3, 231, 312), 1);
        due("reckon(4)", x.reckon(4, 213, 132), -1);
        due("reckon(-1)", x.reckon(-1, 213, 132), -1);
        due("reckon no code", x.reckon(0, 213, 133), -1);
        due("reckon no code", x.reckon(0, 2134, 132), -1);
    }

    private static void ways() {
        map(37, 7, 2345617, 1234567);
        due("way(1,1)", x.way(1, 1), 0);
        due("way(1,4)", x.way(1, 4), 3);
        due("way(1,5)", x.way(1, 5), 2);
        due("way(6,1)", x.way(6, 1), 1);
        due("way(1,7)", x.way(1, 7), -2);
        due("way(7,7)", x.way(7, 7), 0);
        due("way(0,1)", x.way(0, 1), -1);
        due("way(1,8)", x.way(1, 8), -1);
        map(38, 5, 23154, 21345);
        due("meet(0,1,1,2)", x.meet(0, 1, 1, 2), 2);
        due("meet(0,1,1,3)", x.meet(0, 1, 1, 3), 1);
        due("meet(0,1,0,4)", x.meet(0, 1, 0, 4), 0);
        due("meet(0,1,0,3)", x.meet(0, 1, 0, 3), 3);
        due("meet(2,1,0,1)", x.meet(2, 1, 0, 1), 1);
        due("meet(2,2,0,1)", x.meet(2, 2, 0, 1), 2);
        due("meet(3,1,0,1)", x.meet(3, 1, 0, 1), -1);
        due("meet(0,1,-1,1)", x.meet(0, 1, -1, 1), -1);
        due("meet(0,0,1,1)", x.meet(0, 0, 1, 1), -1);
        due("meet(0,1,1,6)", x.meet(0, 1, 1, 6), -1);
    }

    private static void album() {
        map(39, 3, 213, 132);
        due("paste()", x.paste(), 0);
        due("paste() again", x.paste(), 0);
        x.set(0, 132);
        x.set(1, 321);
        due("paste() of its class", x.paste(), 0);
        x.degree(3);
        due("paste() apart", x.paste(), -2);
        x.degree(7);
        x.set(0, 2345671);
        x.set(1, 2345671);
        due("paste()", x.paste(), 1);
        promise = 40;
        int[][] want = {{3, 132, 213, 0}, {7, 2345671, 2345671, 3}};
        for (int i = 0; i < 2; i++) {
            for (int w = 0; w < 4; w++) due("piece(" + i + "," + w + ")", x.piece(i, w), want[i][w]);
        }
        due("piece(2,0)", x.piece(2, 0), -1);
        due("piece(-1,0)", x.piece(-1, 0), -1);
        due("piece(0,4)", x.piece(0, 4), -1);
        due("piece(0,-1)", x.piece(0, -1), -1);
        promise = 41;
        due("take(2)", x.take(2), -1);
        due("take(-1)", x.take(-1), -1);
        due("take(0)", x.take(0), 7);
        due("code(0)", x.code(0), 132);
        due("code(1)", x.code(1), 213);
        due("take(1)", x.take(1), 3);
        due("count(0)", x.count(0), 7);
        fullAlbum();
    }

    private static void fullAlbum() {
        promise = 39;
        // twelve unlike classes: 2 stand, ten more of seven darts with s as it is
        x.degree(7);
        x.set(0, 2345671);
        int[] whites = {1234567, 2134567, 3214567, 4231567, 2314567, 3124567, 2143567, 2341567, 2345167, 2345617};
        for (int i = 0; i < 10; i++) {
            x.set(1, whites[i]);
            due("paste() " + i, x.paste(), i + 2);
        }
        x.set(1, 3456712);
        due("paste() too many", x.paste(), -3);
        due("count(9)", x.count(9), 12);
        x.set(1, 1234567);
        due("paste() of one there", x.paste(), 2);
        x.set(0, 1234567);
        due("paste() apart", x.paste(), -2);
    }

    private static void states() {
        map(42, 3, 213, 132);
        due("undo()", x.undo(), -1);
        due("keep()", x.keep(), 1);
        x.paste();
        x.degree(5);
        x.set(0, 23451);
        due("keep()", x.keep(), 2);
        x.paste();
        x.set(0, 12345);
        tape("s");
        promise = 43;
        due("undo()", x.undo(), 1);
        due("piece(0,2)", x.piece(0, 2), 213);
        due("code(0)", x.code(0), 23451);
        due("count(9)", x.count(9), 1);
        due("count(10)", x.count(10), 20);
        due("count(11)", x.count(11), 1);
        due("undo()", x.undo(), 0);
        due("count(0)", x.count(0), 3);
        due("code(1)", x.code(1), 132);
        due("count(9)", x.count(9), 0);
        due("undo()", x.undo(), -1);
        due("code(0)", x.code(0), 213);
        promise = 42;
        for (int i = 1; i <= 8; i++) due("keep()", x.keep(), i);
        due("keep() too many", x.keep(), -1);
        due("count(11)", x.count(11), 8);
    }

    public static void main(String[] args) {
        start();
        feed();
        degree();
        set();
        text();
        drawn();
        operate();
        tidy();
        codes();
        cycles();
        count();
        siblings();
        part();
        canon();
        same();
        group();
        block();
        types();
        character();
        triples();
        mass();
        family();
        walk();
        power();
        reckon();
        ways();
        album();
        states();
        System.out.println(wrong == 0 ? "all answers are as due" : wrong + " answers are not as due");
        if (wrong != 0) System.exit(1);
    }
}
