import java.io.IOException;
import java.nio.file.Files;
import java.nio.file.Path;
import java.util.ArrayList;
import java.util.LinkedHashMap;
import java.util.List;
import java.util.Map;
import java.util.TreeMap;

/**
 * What the tests of boundary cases share. Each check stands under a quote of the document that it is of: a
 * quote that is not there, and a sentence that no check is of, are failures themselves. What a refused call
 * leaves is held against a twin: an object told the same, but for that call.
 */
abstract class Edges {
    /** What is told to a new object. */
    interface Scene {
        void tell(DrawnMaps x);
    }

    interface Call {
        long on(DrawnMaps x);
    }

    static final int LOW = Integer.MIN_VALUE;
    static final int HIGH = Integer.MAX_VALUE;
    private static final int MOST_READ = 60;
    private static final String DOC = "../shared/DOC.md";

    /** The object that is looked at. */
    static DrawnMaps x = new DrawnMaps();
    /** What is told ahead of a call that is refused. */
    static Scene scene = Edges::rich;

    private static final String DOCUMENT = document();
    private static final boolean[] QUOTED = new boolean[DOCUMENT.length()];
    private static final TreeMap<Integer, Integer> REGIONS = new TreeMap<>();
    private static int from;
    private static int to;
    private static String sentence = "";
    private static boolean checked = true;
    private static int wrong;

    private static String document() {
        try {
            String marks = "```(text|java)?|==== \\d\\.";
            return Files.readString(Path.of(DOC)).replaceAll(marks, "").replaceAll("\\s+", " ");
        } catch (IOException e) {
            throw new IllegalStateException(DOC + " can't be read", e);
        }
    }

    // ---- the document

    /** What follows is of a promise. */
    static void promise(int number) {
        int heading = DOCUMENT.indexOf("## Promise " + number + ":");
        int words = DOCUMENT.indexOf("`: ", heading) + 3;
        int next = DOCUMENT.indexOf("## ", words);
        region(words, next);
    }

    /** What follows is of the words from one quote on, up to another. */
    static void passage(String first, String behind) {
        int start = DOCUMENT.indexOf(first);
        if (start < 0 || DOCUMENT.indexOf(behind, start) < 0) fail("no such passage in the document: " + first);
        else region(start, DOCUMENT.indexOf(behind, start));
    }

    private static void region(int start, int end) {
        from = start;
        to = end;
        REGIONS.put(start, end);
    }

    /** What follows is of this sentence. */
    static void says(String words) {
        if (!checked) fail("nothing is checked");
        checked = false;
        sentence = words;
        scene = Edges::rich;
        int at = DOCUMENT.indexOf(words, from);
        if (at < 0 || at + words.length() > to) fail("not in this part of the document");
        for (; at >= 0 && at + words.length() <= to; at = DOCUMENT.indexOf(words, at + 1)) {
            for (int i = 0; i < words.length(); i++) QUOTED[at + i] = true;
        }
    }

    private static void fail(String what) {
        wrong++;
        System.out.println("\"" + sentence + "\": " + what);
    }

    /** Each sentence of the promises from the first to the last is tested: the run ends. */
    static void end(int first, int last) {
        if (!checked) fail("nothing is checked");
        for (int k = first; k <= last; k++) {
            int heading = DOCUMENT.indexOf("## Promise " + k + ":");
            if (REGIONS.floorKey(heading + 100) == null || REGIONS.floorKey(heading + 100) < heading) {
                wrong++;
                System.out.println("promise " + k + " is not tested");
            }
        }
        end();
    }

    static void end() {
        for (Map.Entry<Integer, Integer> region : REGIONS.entrySet()) untested(region.getKey(), region.getValue());
        System.out.println(wrong == 0 ? "all answers are as due" : wrong + " answers are not as due");
        if (wrong != 0) System.exit(1);
    }

    private static void untested(int start, int end) {
        StringBuilder words = new StringBuilder();
        for (int i = start; i < end; i++) {
            boolean sign = Character.isLetterOrDigit(DOCUMENT.charAt(i));
            if (!QUOTED[i] && (sign || words.length() > 0)) words.append(DOCUMENT.charAt(i));
            if ((QUOTED[i] || i == end - 1) && words.length() > 0) {
                wrong++;
                System.out.println("no check is of: " + words);
                words.setLength(0);
            }
        }
    }

    // ---- answers

    static void due(String call, long got, long want) {
        checked = true;
        if (got != want) fail(call + " answered " + got + ", due is " + want);
    }

    static void holds(String what, boolean good) {
        checked = true;
        if (!good) fail(what);
    }

    /** A call of which the answers for 0, 1, .. are due. */
    interface Row {
        long at(int i);
    }

    static void row(String call, Row row, long... want) {
        for (int i = 0; i < want.length; i++) due(call + " at " + i, row.at(i), want[i]);
    }

    // ---- telling

    static DrawnMaps fresh() {
        x = new DrawnMaps();
        return x;
    }

    static void map(int n, int s, int a) {
        draw(fresh(), n, s, a);
    }

    static void draw(DrawnMaps on, int n, int s, int a) {
        if (on.degree(n) < 1 || on.set(0, s) < 1 || on.set(1, a) < 1) fail("refused: " + n + " " + s + " " + a);
    }

    /** A text comes behind the tape, filled up to twenties with a byte that is no letter of a word. */
    static void tape(DrawnMaps on, String text) {
        for (int i = 0; i < text.length(); i += 20) {
            int[] v = new int[5];
            for (int k = 0; k < 20; k++) {
                v[k / 4] = v[k / 4] << 8 | (i + k < text.length() ? text.charAt(i + k) : '#');
            }
            on.feed(v[0], v[1], v[2], v[3], v[4]);
        }
    }

    static int text(int which, String text) {
        tape(x, text);
        return x.text(which, text.length());
    }

    static int walk(int dart, String word) {
        tape(x, word);
        return x.walk(dart, word.length());
    }

    static int made(String word, int what) {
        tape(x, word);
        return x.made(word.length(), what);
    }

    // ---- what a refused call leaves

    /** Two pieces, two states kept of unlike maps, forty bytes, and a map on which each number is its own. */
    static void rich(DrawnMaps on) {
        draw(on, 4, 2341, 2134);
        on.paste();
        on.keep();
        draw(on, 6, 234561, 213465);
        on.paste();
        on.keep();
        draw(on, 5, 23451, 13254);
        tape(on, "saSSaFsfAAsfaSffSaas" + "aSSfaAfsaaSFsaassfaA");
    }

    /** The call is refused with this answer, and what the object shows later is as if it had not been. */
    static void refused(String name, long want, Call call) {
        for (boolean word : new boolean[] {true, false}) {
            DrawnMaps told = new DrawnMaps();
            scene.tell(told);
            due(name, call.on(told), want);
            DrawnMaps twin = new DrawnMaps();
            scene.tell(twin);
            alike(name, look(told, word), look(twin, word));
        }
    }

    static void refused(String name, Call call) {
        refused(name, -1, call);
    }

    /** As refused(), but the tape is empty then. */
    static void faulted(String name, long want, Call call) {
        DrawnMaps told = new DrawnMaps();
        scene.tell(told);
        due(name, call.on(told), want);
        DrawnMaps twin = new DrawnMaps();
        scene.tell(twin);
        Map<String, Long> due = look(twin, true);
        due.put("count(10)", 0L);
        due.remove("the tape");
        alike(name, look(told, true), due);
    }

    private static void alike(String name, Map<String, Long> got, Map<String, Long> want) {
        if (got.equals(want)) return;
        for (String one : want.keySet()) {
            if (!want.get(one).equals(got.get(one))) {
                fail("after " + name + ", " + one + " answered " + got.get(one) + ", due is " + want.get(one));
                return;
            }
        }
        fail("after " + name + " there is more than was");
    }

    /** All that an object shows: the map, the group, the passport, the album, the tape, the states. */
    static Map<String, Long> look(DrawnMaps on, boolean word) {
        Map<String, Long> seen = new LinkedHashMap<>();
        for (int w = 0; w < 12; w++) seen.put("count(" + w + ")", (long) on.count(w));
        for (int w = 0; w < 3; w++) seen.put("canon(" + w + ")", (long) on.canon(w));
        int[] t = {on.type(0), on.type(1), on.type(2)};
        for (int w = 0; w < 3; w++) seen.put("type(" + w + ")", (long) t[w]);
        for (int w = 0; w < 3; w++) seen.put("length of " + w, (long) on.length(on.code(w)));
        for (int w = 0; w < 3; w++) seen.put("triples " + w, on.triples(t[0], t[1], t[2], w));
        for (int w = 0; w < 3; w++) seen.put("ofType of " + w, (long) on.ofType(t[w]));
        seen.put("classes", (long) on.classes(t[0], t[1], t[2], -1, 0));
        seen.put("thirds", (long) on.thirds(t[0], t[1], -1));
        seen.put("family", (long) on.family(-1, 0));
        drawing(on, "", seen);
        int bytes = Math.min(on.count(10), MOST_READ);
        if (bytes > 0) seen.put("the tape", (long) (word ? on.made(bytes, 0) : on.text(0, bytes)));
        for (int left = on.undo(); left >= 0; left = on.undo()) drawing(on, left + " left: ", seen);
        return seen;
    }

    private static void drawing(DrawnMaps on, String when, Map<String, Long> seen) {
        seen.put(when + "n", (long) on.count(0));
        seen.put(when + "s", (long) on.code(0));
        seen.put(when + "a", (long) on.code(1));
        int pieces = on.count(9);
        for (int i = 0; i < pieces; i++) {
            for (int w = 0; w < 4; w++) seen.put(when + "piece(" + i + "," + w + ")", (long) on.piece(i, w));
        }
    }

    // ---- permutations by their codes, as the document's words have them

    static int at(int code, int dart) {
        return Integer.toString(code).charAt(dart - 1) - '0';
    }

    static int stays(int n) {
        return n == 0 ? 0 : 10 * stays(n - 1) + n;
    }

    /** p, then q. */
    static int then(int p, int q) {
        int code = 0;
        for (int dart = 1; dart <= Integer.toString(p).length(); dart++) code = 10 * code + at(q, at(p, dart));
        return code;
    }

    static int undoing(int p) {
        int n = Integer.toString(p).length();
        int code = 0;
        for (int y = 1; y <= n; y++) {
            for (int dart = 1; dart <= n; dart++) if (at(p, dart) == y) code = 10 * code + dart;
        }
        return code;
    }

    /** What brings r(x) to r(p(x)). */
    static int by(int p, int r) {
        return then(then(undoing(r), p), r);
    }

    static int faces(int s, int a) {
        return undoing(then(s, a));
    }

    /** All permutations of n, by codes. */
    static List<Integer> every(int n) {
        List<Integer> codes = new ArrayList<>(List.of(0));
        for (int k = 0; k < n; k++) {
            List<Integer> longer = new ArrayList<>();
            for (int code : codes) {
                for (int y = 1; y <= n; y++) {
                    if (code == 0 || Integer.toString(code).indexOf('0' + y) < 0) longer.add(10 * code + y);
                }
            }
            codes = longer;
        }
        return codes;
    }

    static int type(int p) {
        int n = Integer.toString(p).length();
        int[] sizes = new int[n + 1];
        for (int dart = 1; dart <= n; dart++) {
            int size = 1;
            boolean least = true;
            for (int y = at(p, dart); y != dart; y = at(p, y)) {
                size++;
                least &= y > dart;
            }
            if (least) sizes[size]++;
        }
        int type = 0;
        for (int size = n; size > 0; size--) {
            for (int k = 0; k < sizes[size]; k++) type = 10 * type + size;
        }
        return type;
    }

    /** CODES of s and a of CANON. */
    static int[] canon(int n, int s, int a) {
        int[] least = {s, a};
        for (int r : every(n)) {
            int black = by(s, r);
            int white = by(a, r);
            if (black < least[0] || black == least[0] && white < least[1]) least = new int[] {black, white};
        }
        return least;
    }
}
