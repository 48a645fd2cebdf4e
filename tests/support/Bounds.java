import java.io.IOException;
import java.nio.charset.StandardCharsets;
import java.nio.file.Files;
import java.nio.file.Path;
import java.util.ArrayList;
import java.util.List;
import java.util.Map;
import java.util.TreeMap;

/**
 * For the tests of the document's boundary cases, which extend this class. Each test tells by of() which
 * promise it is of (or which part of the Terms: -1 PROMISES, -2 HOURS, -3 WHAT CAN'T BE KEPT) and which
 * sentence, in the document's own words; what is wrong is printed with both. end() looks into the document:
 * a sentence that no test has told fails, and so does a told one that the document doesn't have.
 */
class Bounds {
    interface Making {
        void on(KeptPromises x);
    }

    interface Call {
        long on(KeptPromises x);
    }

    /** Far too small, too small, too large, far too large. */
    static final int LEAST = Integer.MIN_VALUE;
    static final int MOST = Integer.MAX_VALUE;

    private static final Path DOC = Path.of("../shared/DOC.md");
    private static final int VIEWS = 7;
    private static final Map<Integer, List<String>> TOLD = new TreeMap<>();
    private static int about = 0;
    private static String sentence = "";
    private static int calls = 0;
    private static int wrong = 0;

    static void of(int promise, String itsSentence) {
        about = promise;
        sentence = itsSentence;
        TOLD.computeIfAbsent(promise, n -> new ArrayList<>()).add(plain(itsSentence));
    }

    static void due(String call, long got, long want) {
        calls++;
        if (got == want) return;
        wrong++;
        System.out.println(name(about) + ", '" + sentence + "': " + call + " answered " + got + ", due is " + want);
    }

    // ---- objects

    static final Making NEW = x -> { };

    /** Reads the texts by shelf 7, each of which has to be a promise. */
    static Making with(String... texts) {
        return x -> {
            int first = x.status(0);
            for (int i = 0; i < texts.length; i++) due("promise '" + texts[i] + "'", Texts.promise(x, texts[i]), first + i);
        };
    }

    static KeptPromises made(String... texts) {
        return made(with(texts));
    }

    static KeptPromises made(Making... first) {
        KeptPromises x = new KeptPromises();
        both(first).on(x);
        return x;
    }

    static Making both(Making... ones) {
        return x -> {
            for (Making m : ones) m.on(x);
        };
    }

    /** Nothing is done in so many hours. */
    static Making idle(int hours) {
        return x -> {
            for (int h = 0; h < hours; h++) x.work(0);
        };
    }

    /** Shelf s holds a row of ints with these elements. */
    static void ints(KeptPromises x, int s, int... elements) {
        x.row(s, 2, elements.length);
        for (int i = 0; i < elements.length; i++) x.set(s, i, elements[i]);
    }

    /** A text that is no promise: where it fails; and it is refused as -6. */
    static void fault(Making first, String text, int place) {
        KeptPromises x = made(first);
        due("promise '" + text + "'", Texts.promise(x, text), -6);
        due("fault of '" + text + "'", x.fault(), place);
    }

    /** A text that is a promise. */
    static void fine(Making first, String text) {
        KeptPromises x = made(first);
        due("promise '" + text + "'", Texts.promise(x, text), x.status(0) - 1);
        due("fault of '" + text + "'", x.fault(), -1);
    }

    // ---- refusals

    /** The call answers the refusal, counts it (it alone), and changes nothing else. */
    static void refused(Making first, String call, Call c, long want) {
        int counted = want == -1000 ? 6 : (int) (want <= -11 ? -want - 10 : -want);
        compare(first, call, c, want, counted, null);
    }

    /** Likewise, of a call that read a row: but for the fault, which is so. */
    static void refused(Making first, String call, Call c, long want, int fault) {
        compare(first, call, c, want, (int) -want, fault);
    }

    /** The call answers so, changes nothing, and counts no refusal. */
    static void quiet(Making first, String call, Call c, long want) {
        compare(first, call, c, want, 0, null);
    }

    private static void compare(Making first, String call, Call c, long want, int counted, Integer fault) {
        for (int part = 0; part < VIEWS; part++) {
            KeptPromises x = made(first);
            KeptPromises twin = made(first);
            long got = c.on(x);
            if (part == 0) {
                due(call, got, want);
                if (fault != null) due("fault() after " + call, x.fault(), fault);
                for (int i = 1; i <= 7; i++) {
                    due("refusals -" + i + " by " + call, x.status(10 + i) - twin.status(10 + i), i == counted ? 1 : 0);
                }
            }
            long[] seen = view(x, part, fault == null);
            long[] before = view(twin, part, fault == null);
            for (int k = 0; k < seen.length; k++) {
                if (seen[k] != before[k]) due("what " + call + " left (part " + part + ", " + k + ")", seen[k], before[k]);
            }
        }
    }

    /** All that can be seen of an object, in parts that few calls tell; it may be changed by them. */
    private static long[] view(KeptPromises x, int part, boolean withFault) {
        long[] seen = new long[256];
        int n = 0;
        if (part == 0 || part == 1) {
            if (part == 0 && withFault) seen[n++] = x.fault();
            if (part == 1) seen[n++] = x.restore();
            for (int i = 0; i <= 20; i++) seen[n++] = x.trace(i);
            for (int i = 0; i <= 5; i++) seen[n++] = x.status(i);
            for (int s = 0; s < 8; s++) seen[n++] = x.holds(s);
            for (int p = 0; p < x.status(0); p++) {
                for (int what = 0; what < 12; what++) seen[n++] = x.promiseOf(p, what);
            }
        } else if (part == 2) {
            for (int h = 0; h < 12; h++) seen[n++] = x.hands(h, 1);
            for (int f = 0; f < 3; f++) seen[n++] = x.known(f, 11);
            for (int f = 0; f < 3; f++) seen[n++] = x.turn(f, 0);
            for (int whom = 0; whom < 6; whom++) seen[n++] = x.debt(whom);
        } else {
            for (int s = 2 * (part - 3); s < 2 * (part - 2); s++) {
                for (int i = 0; i < 60; i++) seen[n++] = x.element(s, i);
                seen[n++] = sizeOf(x, s);
            }
        }
        return seen;
    }

    /** How many elements a shelf's row has; -1: it holds none. */
    static int sizeOf(KeptPromises x, int s) {
        if (x.holds(s) < 100) return -1;
        int low = 0;
        int high = 61;
        while (high - low > 1) {
            int middle = (low + high) / 2;
            if (x.copy(s, s, middle, middle, 0) == 1) low = middle;
            else high = middle;
        }
        return low;
    }

    // ---- the document

    /** Prints how it went, and ends the test; the sentences of the promises first to last have to be told. */
    static void end(String test, int first, int last) throws IOException {
        if (Files.isReadable(DOC)) lookIntoDocument(first, last);
        else System.out.println(test + ": no " + DOC + " here to look for its sentences");
        System.out.println(test + ": " + calls + " answers, " + wrong + " wrong");
        if (wrong > 0) System.exit(1);
    }

    private static void lookIntoDocument(int first, int last) throws IOException {
        String doc = Files.readString(DOC, StandardCharsets.UTF_8);
        for (int n : TOLD.keySet()) {
            for (String told : TOLD.get(n)) {
                if (!bodyOf(doc, n).contains(told)) fail(name(n) + " has no sentence '" + told + "'");
            }
        }
        for (int n = first; n <= last; n++) {
            for (String piece : bodyOf(doc, n).split("(?<!\\.)\\.\\)?(?= |$)|;")) {
                boolean told = piece.isBlank();
                for (String one : TOLD.getOrDefault(n, List.of())) told |= one.contains(piece.trim());
                if (!told) fail(name(n) + ": no test tells the sentence '" + piece.trim() + "'");
            }
        }
    }

    private static String name(int n) {
        return n < 0 ? "Terms " + -n : "promise " + n;
    }

    private static void fail(String what) {
        wrong++;
        System.out.println(what);
    }

    private static String bodyOf(String doc, int n) {
        int start = doc.indexOf('\n', doc.indexOf(n < 0 ? "==== " + -n + "." : "## Promise " + n + ": "));
        int part = doc.indexOf("\n====", start);
        int promise = doc.indexOf("\n## ", start);
        String body = doc.substring(start, n < 0 && part >= 0 ? Math.min(part, promise) : promise);
        return plain(n < 0 ? body.replaceAll("(?m)^```.*$", "") : body.replaceFirst("`[^`]*`:", ""));
    }

    private static String plain(String text) {
        return text.replaceAll("\\s+", " ").trim();
    }
}
