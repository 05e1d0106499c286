/** The boundary cases that promises 39 to 43 (the album, what is kept) name, sentence by sentence. */
public final class AlbumEdgeTest extends Edges {
    /** Thirteen CLASSES: n, CODES of CANON, GENUS. */
    private static final int[][] CLASSES = {
        {7, 2345671, 1234567, 0}, {1, 1, 1, 0}, {3, 132, 213, 0}, {2, 21, 21, 0}, {2, 12, 21, 0}, {2, 21, 12, 0}, {4, 2341, 1234, 0}, {5, 23451, 12345, 0},
        {6, 234561, 123456, 0}, {3, 231, 231, 1}, {3, 231, 312, 0}, {7, 2345671, 2345671, 3}, {5, 23451, 23451, 2}
    };

    private static void pasted(DrawnMaps on, int many) {
        for (int i = 0; i < many; i++) {
            draw(on, CLASSES[i][0], CLASSES[i][1], CLASSES[i][2]);
            on.paste();
        }
    }

    private static void paste() {
        promise(39);
        says("The CLASS of this MAP comes to THE ALBUM: its place (that which it has, if it is there);");
        fresh();
        for (int i = 0; i < 12; i++) {
            draw(x, CLASSES[i][0], CLASSES[i][1], CLASSES[i][2]);
            due("paste() of " + i, x.paste(), i);
            due("count(9)", x.count(9), i + 1);
            due("paste() of " + i + " again", x.paste(), i);
            due("count(9) again", x.count(9), i + 1);
        }
        for (int i = 11; i >= 0; i--) {
            draw(x, CLASSES[i][0], CLASSES[i][1], CLASSES[i][2]);
            due("paste() of " + i + ", that is there", x.paste(), i);
        }
        due("count(9)", x.count(9), 12);
        // another MAP of the CLASS; the map stays as it is
        for (int r : every(4)) {
            map(4, 2341, 2134);
            due("paste()", x.paste(), 0);
            x.set(0, by(2341, r));
            x.set(1, by(2134, r));
            due("paste() by " + r, x.paste(), 0);
            due("count(9)", x.count(9), 1);
            row("code", x::code, by(2341, r), by(2134, r));
        }
        // next to it: of another n, of the same s, of the same a, mirrored
        map(3, 231, 123);
        due("paste()", x.paste(), 0);
        draw(x, 4, 2341, 1234);
        due("paste() of another n", x.paste(), 1);
        draw(x, 3, 231, 312);
        due("paste() of the same s", x.paste(), 2);
        draw(x, 3, 123, 231);
        due("paste(), s for a", x.paste(), 3);
        draw(x, 5, 14253, 41352);
        due("paste() of what is not as its mirrored", x.paste(), 4);
        x.operate(1);
        due("paste() of its mirrored", x.paste(), 5);

        says("-2: not CONNECTED;");
        for (int[] m : new int[][] {{2, 12, 12}, {3, 213, 123}, {4, 2134, 1243}, {7, 2345617, 1234567}, {7, 1234567, 1234567}}) {
            scene = o -> {
                rich(o);
                draw(o, m[0], m[1], m[2]);
            };
            refused("paste() of " + m[1] + " " + m[2], -2, DrawnMaps::paste);
        }
        scene = o -> {
            pasted(o, 12);
            draw(o, 2, 12, 12);
        };
        refused("paste(), there are 12", -2, DrawnMaps::paste);
        map(7, 2345617, 1234567);
        due("paste()", x.paste(), -2);
        x.set(1, 2134576);
        due("paste(), joined", x.paste(), 0);

        says("-3: there are 12.");
        scene = o -> {
            pasted(o, 12);
            draw(o, CLASSES[12][0], CLASSES[12][1], CLASSES[12][2]);
        };
        refused("paste() of the thirteenth", -3, DrawnMaps::paste);
        pasted(fresh(), 11);
        draw(x, CLASSES[12][0], CLASSES[12][1], CLASSES[12][2]);
        due("paste() of the twelfth", x.paste(), 11);
        draw(x, CLASSES[11][0], CLASSES[11][1], CLASSES[11][2]);
        due("paste() of the thirteenth", x.paste(), -3);
        due("count(9)", x.count(9), 12);
        due("piece(11,2)", x.piece(11, 2), CLASSES[12][2]);
    }

    private static void piece() {
        promise(40);
        says("Piece i of THE ALBUM, what 0 n, 1 CODE of s, 2 of a, 3 GENUS;");
        pasted(fresh(), 13);
        for (int i = 0; i < 12; i++) {
            int k = i;
            row("piece(" + i + ",..)", w -> x.piece(k, w), CLASSES[i][0], CLASSES[i][1], CLASSES[i][2], CLASSES[i][3], -1);
        }
        due("piece(12,0)", x.piece(12, 0), -1);
        // the CLASS comes: the CODES are CANON's
        map(4, 4123, 2134);
        x.paste();
        row("piece(0,..)", w -> x.piece(0, w), 4, 2341, 1243, 0, -1);
        // n of today is nothing to it
        x.degree(1);
        row("piece(0,..)", w -> x.piece(0, w), 4, 2341, 1243, 0, -1);

        says("NONE: no such ones.");
        // there are two
        for (int i : new int[] {2, -1, 3, 11, 12, LOW, HIGH}) {
            for (int what = 0; what < 4; what++) {
                int w = what;
                refused("piece(" + i + "," + what + ")", o -> o.piece(i, w));
            }
        }
        for (int what : new int[] {-1, 4, LOW, HIGH}) {
            refused("piece(0," + what + ")", o -> o.piece(0, what));
            refused("piece(1," + what + ")", o -> o.piece(1, what));
        }
        due("piece(0,0) of none", fresh().piece(0, 0), -1);
    }

    private static void take() {
        promise(41);
        says("n, s, a become those of piece i: n as it was;");
        pasted(fresh(), 12);
        int was = x.count(0);
        for (int i : new int[] {0, 11, 1, 10, 5, 5, 0}) {
            due("take(" + i + ")", x.take(i), was);
            was = CLASSES[i][0];
            due("count(0)", x.count(0), was);
            row("code", x::code, CLASSES[i][1], CLASSES[i][2]);
            due("count(9)", x.count(9), 12);
            due("paste()", x.paste(), i);
        }
        // all else stays
        rich(fresh());
        due("take(1)", x.take(1), 5);
        row("code", x::code, 234561, 124365);
        row("count from 9 on", w -> x.count(9 + w), 2, 40, 2);
        // the piece stays as it is, whatever becomes of the map
        x.set(0, 123456);
        row("piece(1,..)", w -> x.piece(1, w), 6, 234561, 124365, 0);

        says("NONE: no such piece.");
        for (int i : new int[] {2, -1, 3, 11, 12, LOW, HIGH}) refused("take(" + i + ")", o -> o.take(i));
        scene = o -> pasted(o, 12);
        refused("take(12)", o -> o.take(12));
        scene = o -> draw(o, 3, 231, 213);
        refused("take(0) of none", o -> o.take(0));
    }

    private static void keep() {
        promise(42);
        says("All but the tape is kept: how many states are;");
        fresh();
        for (int i = 1; i <= 8; i++) due("keep()", x.keep(), i);
        map(3, 231, 213);
        x.paste();
        tape(x, "s");
        due("keep()", x.keep(), 1);
        row("code is as it was", x::code, 231, 213);
        row("count from 9 on", w -> x.count(9 + w), 1, 20, 1);
        x.feed(0, 0, 0, 0, 0);
        draw(x, 5, 23451, 12345);
        x.paste();
        due("undo()", x.undo(), 0);
        row("code", x::code, 231, 213);
        due("count(0)", x.count(0), 3);
        row("count from 9 on", w -> x.count(9 + w), 1, 40, 0);
        // the tape is not: read ahead of undo(), it is gone behind it
        map(3, 231, 213);
        tape(x, "sa");
        x.keep();
        due("walk(1,2)", x.walk(1, 2), 1);
        due("undo()", x.undo(), 0);
        due("count(10)", x.count(10), 0);
        due("walk(1,2)", x.walk(1, 2), -1);
        // nor does it come back: another one is there
        tape(x, "ss");
        x.keep();
        x.walk(1, 1);
        tape(x, "aa");
        x.undo();
        due("walk(2,1)", x.walk(2, 1), 1);
        eight();

        says("NONE: 8 are.");
        scene = o -> {
            rich(o);
            for (int i = 3; i <= 8; i++) {
                o.drawn(i);
                o.keep();
            }
            o.drawn(99);
        };
        refused("keep() of a ninth", DrawnMaps::keep);
        refused("keep(), twice", o -> Math.max(o.keep(), o.keep()));
        fresh();
        for (int i = 1; i <= 7; i++) x.keep();
        due("keep() of the eighth", x.keep(), 8);
        due("keep() of the ninth", x.keep(), -1);
        due("undo()", x.undo(), 7);
        due("keep() of the eighth", x.keep(), 8);
        due("keep() of the ninth", x.keep(), -1);
    }

    /** Eight states, each with its own n, s, a and pieces. */
    private static void eight() {
        fresh();
        for (int i = 0; i < 8; i++) {
            draw(x, CLASSES[i][0], CLASSES[i][1], CLASSES[i][2]);
            x.paste();
            due("keep() " + i, x.keep(), i + 1);
        }
        pasted(x, 12);
        for (int i = 7; i >= 0; i--) {
            due("undo() " + i, x.undo(), i);
            due("count(0)", x.count(0), CLASSES[i][0]);
            row("code", x::code, CLASSES[i][1], CLASSES[i][2]);
            due("count(9)", x.count(9), i + 1);
            int k = i;
            row("piece(" + i + ",..)", w -> x.piece(k, w), CLASSES[i][0], CLASSES[i][1], CLASSES[i][2], CLASSES[i][3]);
            due("piece(" + (i + 1) + ",0)", x.piece(i + 1, 0), -1);
        }
    }

    private static void undo() {
        promise(43);
        says("All is as it was kept last (that state is gone): how many are left;");
        map(3, 231, 213);
        x.keep();
        draw(x, 4, 2341, 2134);
        x.paste();
        x.keep();
        draw(x, 5, 23451, 13254);
        x.paste();
        due("undo()", x.undo(), 1);
        due("count(0)", x.count(0), 4);
        row("code", x::code, 2341, 2134);
        due("count(9)", x.count(9), 1);
        // told anew behind it, and undone: what was kept first
        x.degree(7);
        due("undo()", x.undo(), 0);
        due("count(0)", x.count(0), 3);
        row("code", x::code, 231, 213);
        due("count(9)", x.count(9), 0);
        due("count(11)", x.count(11), 0);
        // an album that was full is as it was; its places come again
        pasted(fresh(), 11);
        x.keep();
        draw(x, CLASSES[11][0], CLASSES[11][1], CLASSES[11][2]);
        due("paste()", x.paste(), 11);
        due("undo()", x.undo(), 0);
        due("count(9)", x.count(9), 11);
        due("piece(11,0)", x.piece(11, 0), -1);
        due("take(11)", x.take(11), -1);
        draw(x, CLASSES[12][0], CLASSES[12][1], CLASSES[12][2]);
        due("paste()", x.paste(), 11);
        due("piece(11,3)", x.piece(11, 3), CLASSES[12][3]);
        // the GROUP, the PASSPORT and the tape are of the map that is there
        map(3, 231, 123);
        x.keep();
        due("length(213)", x.length(213), -2);
        draw(x, 3, 213, 132);
        due("length(213)", x.length(213), 1);
        tape(x, "s");
        x.undo();
        due("length(213)", x.length(213), -2);
        due("ofType(21)", x.ofType(21), 0);
        due("walk(1,1)", x.walk(1, 1), 2);

        says("NONE: there is none.");
        scene = o -> {
            rich(o);
            o.undo();
            o.undo();
            draw(o, 5, 23451, 13254);
        };
        refused("undo() of none", DrawnMaps::undo);
        scene = o -> draw(o, 3, 231, 213);
        refused("undo() of none ever", DrawnMaps::undo);
        fresh();
        due("undo()", x.undo(), -1);
        due("keep()", x.keep(), 1);
        due("undo()", x.undo(), 0);
        due("undo()", x.undo(), -1);
        due("keep()", x.keep(), 1);
    }

    public static void main(String[] args) {
        paste();
        piece();
        take();
        keep();
        undo();
        end(39, 43);
    }
}
