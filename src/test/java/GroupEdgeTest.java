import java.util.ArrayList;
import java.util.HashMap;
import java.util.List;
import java.util.Map;

/** The boundary cases that promises 19 to 22 (the group) name, sentence by sentence. */
public final class GroupEdgeTest extends Edges {
    /** The fewest turns to each PERMUTATION of a GROUP. */
    private static Map<Integer, Integer> turns(int n, int s, int a) {
        Map<Integer, Integer> turns = new HashMap<>();
        turns.put(stays(n), 0);
        List<Integer> last = List.of(stays(n));
        for (int k = 1; !last.isEmpty(); k++) {
            List<Integer> next = new ArrayList<>();
            for (int p : last) {
                for (int turn : new int[] {s, a, undoing(s), undoing(a)}) {
                    if (turns.putIfAbsent(then(p, turn), k) == null) next.add(then(p, turn));
                }
            }
            last = next;
        }
        return turns;
    }

    private static void ofType() {
        promise(19);
        says("How many PERMUTATIONS of THE GROUP have a TYPE;");
        map(1, 1, 1);
        due("ofType(1) of one", x.ofType(1), 1);
        // what turns and mirrors a square; all of four; the even ones; none but what stays
        int[] types = {1111, 211, 22, 31, 4};
        int[][] due = {{2341, 1432, 1, 2, 3, 0, 2}, {2341, 2134, 1, 6, 3, 8, 6}, {2314, 1342, 1, 0, 3, 8, 0}, {1234, 1234, 1, 0, 0, 0, 0}, {2134, 1243, 1, 2, 1, 0, 0}};
        for (int[] one : due) {
            map(4, one[0], one[1]);
            for (int i = 0; i < 5; i++) due("ofType(" + types[i] + ") of " + one[0] + " " + one[1], x.ofType(types[i]), one[2 + i]);
        }
        map(7, 2345671, 2134567);
        int[] all = {1111111, 211111, 7, 61, 43, 322};
        int[] many = {1, 21, 720, 840, 420, 210};
        for (int i = 0; i < 6; i++) due("ofType(" + all[i] + ") of all of seven", x.ofType(all[i]), many[i]);
        // another a, another GROUP
        x.set(1, 1234567);
        row("ofType of a round of seven", i -> x.ofType(new int[] {1111111, 7, 211111}[i]), 1, 6, 0);
        // the same turns, but among more DARTS, and among fewer
        map(3, 213, 123);
        due("ofType(21) of 3", x.ofType(21), 1);
        draw(x, 4, 2134, 1234);
        due("ofType(211) of 4", x.ofType(211), 1);
        due("ofType(1111) of 4", x.ofType(1111), 1);
        draw(x, 2, 21, 12);
        due("ofType(2) of 2", x.ofType(2), 1);
        due("ofType(11) of 2", x.ofType(11), 1);
        // a alone unlike the last, s alone unlike the last
        map(3, 213, 132);
        due("ofType(3)", x.ofType(3), 2);
        x.set(1, 213);
        due("ofType(3), another a", x.ofType(3), 0);
        x.set(0, 132);
        due("ofType(3), another s", x.ofType(3), 2);

        says("NONE: no such TYPE of n.");
        for (int type : new int[] {0, 4, 6, 15, 23, 50, 51, 42, 1111, 111111, -5, 500, 12, 1112, 2201, 9, LOW, HIGH}) refused("ofType(" + type + ")", o -> o.ofType(type));
    }

    private static void elements() {
        promise(20);
        says("How many PERMUTATIONS of THE GROUP come, one behind the other with s as with a, to the same in either order (what 0);");
        int[][] due = {
            {1, 1, 1, 1}, {2, 12, 12, 1}, {2, 21, 12, 2}, {3, 213, 132, 1}, {3, 231, 312, 3}, {4, 2341, 1432, 2}, {4, 2143, 3412, 4}, {4, 2341, 2134, 1},
            {4, 2341, 1234, 4}, {4, 1234, 2341, 4}, {4, 2134, 1243, 4}, {7, 1234567, 1234567, 1}, {7, 2345671, 1234567, 7}, {7, 2345671, 2134567, 1}, {6, 231645, 456123, 1}
        };
        for (int[] one : due) {
            map(one[0], one[1], one[2]);
            due("elements(0) of " + one[1] + " " + one[2], x.elements(0), one[3]);
        }

        says("or bring all DARTS back by what times at the least (what 1 on);");
        map(1, 1, 1);
        row("elements of one dart", x::elements, 1, 1, 0, 0);
        map(4, 2341, 1432);
        row("elements of a square", x::elements, 2, 1, 5, 0, 2, 0);
        map(7, 2345671, 2134567);
        row("elements of all of seven", x::elements, 1, 1, 231, 350, 840, 504, 1470, 720, 0, 0, 504, 0, 420, 0);
        due("elements(HIGH)", x.elements(HIGH), 0);
        map(7, 1234567, 1234567);
        row("elements of what stays", x::elements, 1, 1, 0);

        says("NONE: what is below 0.");
        for (int what : new int[] {-1, -2, LOW}) refused("elements(" + what + ")", o -> o.elements(what));
        map(4, 2341, 1432);
        due("elements(-1)", x.elements(-1), -1);
        due("elements(0)", x.elements(0), 2);
    }

    private static void length() {
        promise(21);
        says("The fewest turns by s, a and what undoes them (one behind the other) that give a PERMUTATION of a CODE;");
        map(1, 1, 1);
        due("length(1)", x.length(1), 0);
        for (int[] m : new int[][] {{123, 123}, {231, 123}, {213, 132}, {231, 213}, {123, 321}}) lengths(3, m[0], m[1]);
        for (int[] m : new int[][] {{2341, 2134}, {2341, 1432}, {2314, 1342}, {2143, 3412}, {1234, 2341}, {2134, 1243}}) lengths(4, m[0], m[1]);
        map(7, 2345671, 1234567);
        int p = 1234567;
        for (int k = 0; k < 7; k++) {
            due("length of s " + k + " times", x.length(p), Math.min(k, 7 - k));
            p = then(p, 2345671);
        }
        // f is no turn: it takes two, where it is neither s nor a nor undoes one
        map(3, 213, 132);
        due("length of f", x.length(x.code(2)), 2);
        map(3, 231, 123);
        due("length of f that undoes s", x.length(x.code(2)), 1);

        says("-2: it is not in THE GROUP;");
        due("length(312)", x.length(312), 1);
        scene = o -> draw(o, 3, 231, 123);
        refused("length(213)", -2, o -> o.length(213));
        refused("length(321)", -2, o -> o.length(321));
        scene = Edges::rich;
        refused("length(21345), an odd one", -2, o -> o.length(21345));
        refused("length(54312), an odd one", -2, o -> o.length(54312));
        map(7, 1234567, 1234567);
        due("length(1234567)", x.length(1234567), 0);
        due("length(1234576)", x.length(1234576), -2);
        // another map, another GROUP; another n, too
        x.set(0, 1234576);
        due("length(1234576)", x.length(1234576), 1);
        map(3, 213, 123);
        due("length(213)", x.length(213), 1);
        draw(x, 4, 2134, 1234);
        due("length(1243)", x.length(1243), -2);
        due("length(2134)", x.length(2134), 1);
        x.set(1, 1243);
        due("length(1243)", x.length(1243), 1);
        due("length(2143)", x.length(2143), 2);

        says("NONE: no such CODE.");
        for (int code : new int[] {0, 1, -12345, 1234, 123456, 12340, 12346, 12344, 11111, 112345, LOW, HIGH}) refused("length(" + code + ")", o -> o.length(code));
    }

    private static void lengths(int n, int s, int a) {
        Map<Integer, Integer> turns = turns(n, s, a);
        map(n, s, a);
        for (int p : every(n)) due("length(" + p + ") of " + s + " " + a, x.length(p), turns.getOrDefault(p, -2));
    }

    private static void block() {
        promise(22);
        says("BLOCK SYSTEM i, what 0 d, 1 its set with DART 1 (bits), 2, 3 CODES of s, a of the QUOTIENT;");
        map(6, 234561, 123456);
        row("block(0,..)", w -> x.block(0, w), 2, 9, 231, 123, -1);
        row("block(1,..)", w -> x.block(1, w), 3, 21, 21, 12, -1);
        due("block(2,0)", x.block(2, 0), -2);
        map(4, 2143, 3412);
        row("block(0,..)", w -> x.block(0, w), 2, 3, 12, 21, -1);
        row("block(1,..)", w -> x.block(1, w), 2, 5, 21, 12, -1);
        row("block(2,..)", w -> x.block(2, w), 2, 9, 21, 21, -1);
        due("block(3,0)", x.block(3, 0), -2);
        // of the smaller d first, though its bits are more
        map(6, 231645, 456123);
        row("block(0,..)", w -> x.block(0, w), 2, 9, 231, 132, -1);
        row("block(1,..)", w -> x.block(1, w), 2, 17, 231, 213, -1);
        row("block(2,..)", w -> x.block(2, w), 2, 33, 231, 321, -1);
        row("block(3,..)", w -> x.block(3, w), 3, 7, 12, 21, -1);
        due("block(4,0)", x.block(4, 0), -2);
        // by s the sets come as 1 2, 5 6, 3 4
        map(6, 561234, 213456);
        row("block(0,..)", w -> x.block(0, w), 2, 3, 312, 123, -1);
        // set 1 3 and 2 4, of DARTS that lie across
        map(4, 2341, 3214);
        row("block(0,..)", w -> x.block(0, w), 2, 5, 21, 12, -1);

        says("-2: not so many;");
        scene = o -> draw(o, 6, 234561, 123456);
        for (int i : new int[] {2, 3, HIGH}) {
            for (int what = 0; what < 4; what++) {
                int w = what;
                refused("block(" + i + "," + what + ")", -2, o -> o.block(i, w));
            }
        }
        // none: n has no d, n is 1, not CONNECTED, sets that break
        for (int[] m : new int[][] {{7, 2345671, 1234567}, {5, 23451, 12345}, {3, 231, 123}, {2, 21, 12}, {1, 1, 1}, {4, 2143, 1234}, {4, 2341, 2134}, {6, 234561, 213456}}) {
            scene = o -> draw(o, m[0], m[1], m[2]);
            refused("block(0,0) of " + m[1] + " " + m[2], -2, o -> o.block(0, 0));
            refused("block(0,3) of " + m[1] + " " + m[2], -2, o -> o.block(0, 3));
        }

        says("NONE: no such ones.");
        scene = o -> draw(o, 6, 234561, 123456);
        for (int i : new int[] {-1, -2, LOW}) refused("block(" + i + ",0)", o -> o.block(i, 0));
        for (int what : new int[] {-1, 4, LOW, HIGH}) {
            refused("block(0," + what + ")", o -> o.block(0, what));
            refused("block(2," + what + ")", o -> o.block(2, what));
        }
        scene = o -> draw(o, 4, 2143, 1234);
        refused("block(0,4), not CONNECTED", o -> o.block(0, 4));
        refused("block(-1,0), not CONNECTED", o -> o.block(-1, 0));
    }

    public static void main(String[] args) {
        ofType();
        elements();
        length();
        block();
        end(19, 22);
    }
}
