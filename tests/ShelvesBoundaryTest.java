import java.io.IOException;

/** The boundary cases of promises 1 to 8: a new object, rows, shelves. */
public final class ShelvesBoundaryTest extends Bounds {
    private static final Making SIX = with("do 2 from 0 to 4 for 3", "whole 1 from 0 to 5", "again 2 from 0 to 4 for 5",
        "once 3 from 0 to 3 if 0=1 for 1", "never 3 from 2 to 4 for 2", "free from 9 to 9 for 4");

    public static void main(String[] args) throws IOException {
        newObject();
        newRows();
        rowsRefused();
        setting();
        settingRefused();
        copying();
        copyingRefused();
        elements();
        putting();
        holding();
        saying();
        sayingRefused();
        end("ShelvesBoundaryTest", 1, 8);
    }

    private static void newObject() {
        of(1, "No PROMISES");
        KeptPromises x = made(NEW);
        for (int what = 0; what <= 2; what++) due("status(" + what + ")", x.status(what), 0);
        due("promiseOf(0, 0)", x.promiseOf(0, 0), -5);
        due("put(0, 0)", x.put(0, 0), -1);
        due("image()", x.image(), 0);
        due("act(0, 0, 1)", x.act(0, 0, 1), 0);
        of(1, "NOW is 0");
        x = made(NEW);
        due("status(3)", x.status(3), 0);
        due("hour(0, 0)", x.hour(0, 0), 0);
        due("hour(0, -1)", x.hour(0, -1), -5);
        for (int h = 0; h < 12; h++) due("work(0) in HOUR " + h, x.work(0), 0);
        due("work(0) after twelve HOURS", x.work(0), -6);
    }

    private static void newRows() {
        of(2, "SHELF s holds a new ROW: 1");
        KeptPromises x = made(NEW);
        for (int s = 0; s < 8; s++) {
            for (int sort = 0; sort < 4; sort++) {
                due("row(" + s + ", " + sort + ", " + 20 * sort + ")", x.row(s, sort, 20 * sort), 1);
                due("holds(" + s + ")", x.holds(s), 100 + sort);
            }
            due("the size of the ROW in SHELF " + s, sizeOf(x, s), 60);
        }
        x = made(NEW);
        x.row(0, 3, 60);
        for (int i = 0; i < 60; i++) x.set(0, i, -1 - i);
        due("row(0, 3, 1) over a full one", x.row(0, 3, 1), 1);
        due("its size", sizeOf(x, 0), 1);
        due("row(0, 3, 60) over it", x.row(0, 3, 60), 1);
        for (int i = 0; i < 60; i++) due("element(0, " + i + ") of the new one", x.element(0, i), 0);
        due("row(0, 0, 0)", x.row(0, 0, 0), 1);
        due("the size of an empty ROW", sizeOf(x, 0), 0);
        x = made(SIX);
        x.put(0, 5);
        due("row(0, 1, 2) over a PROMISE", x.row(0, 1, 2), 1);
        due("holds(0)", x.holds(0), 101);
    }

    private static void rowsRefused() {
        of(2, "-1");
        for (int s : new int[] {LEAST, -1, 8, MOST}) {
            refused(NEW, "row(" + s + ", 0, 1)", x -> x.row(s, 0, 1), -1);
            refused(NEW, "row(" + s + ", 9, -1)", x -> x.row(s, 9, -1), -1);
            refused(NEW, "row(" + s + ", 0, 61)", x -> x.row(s, 0, 61), -1);
        }
        Making old = x -> {
            ints(x, 2, 5, 6, 7);
            x.put(3, -1);
        };
        of(2, "-4");
        for (int n : new int[] {LEAST, -1}) {
            refused(old, "row(2, 0, " + n + ")", x -> x.row(2, 0, n), -4);
            refused(old, "row(3, 4, " + n + ")", x -> x.row(3, 4, n), -4);
        }
        of(2, "-6 SORT");
        for (int sort : new int[] {LEAST, -1, 4, MOST}) {
            refused(old, "row(2, " + sort + ", 0)", x -> x.row(2, sort, 0), -6);
            refused(old, "row(2, " + sort + ", 61)", x -> x.row(2, sort, 61), -6);
        }
        of(2, "-7 n above 60");
        for (int n : new int[] {61, MOST}) {
            refused(old, "row(2, 0, " + n + ")", x -> x.row(2, 0, n), -7);
            refused(old, "row(3, 3, " + n + ")", x -> x.row(3, 3, n), -7);
        }
    }

    private static void setting() {
        of(3, "Element i of the ROW becomes v: 1");
        for (int n : new int[] {1, 2, 60}) {
            KeptPromises x = made(NEW);
            x.row(4, 2, n);
            due("set(4, 0, 7)", x.set(4, 0, 7), 1);
            due("set(4, " + (n - 1) + ", 8)", x.set(4, n - 1, 8), 1);
            for (int i = 0; i < n; i++) due("element(4, " + i + ")", x.element(4, i), i == n - 1 ? 8 : i == 0 ? 7 : 0);
        }
        long[][] kept = {{127, 127}, {128, -128}, {255, -1}, {256, 0}, {-128, -128}, {-129, 127}, {Long.MAX_VALUE, -1}};
        for (long[] k : kept) put(0, k[0], k[1]);
        long[][] shorts = {{32767, 32767}, {32768, -32768}, {65535, -1}, {65536, 0}, {-32769, 32767}, {Long.MIN_VALUE, 0}};
        for (long[] k : shorts) put(1, k[0], k[1]);
        long[][] ints = {{MOST, MOST}, {MOST + 1L, LEAST}, {(1L << 32) - 1, -1}, {1L << 32, 0}, {LEAST - 1L, MOST}};
        for (long[] k : ints) put(2, k[0], k[1]);
        for (long v : new long[] {Long.MAX_VALUE, Long.MIN_VALUE, 1L << 32, -1}) put(3, v, v);
    }

    private static void put(int sort, long v, long want) {
        KeptPromises x = made(NEW);
        x.row(0, sort, 3);
        due("set(0, 1, " + v + ") of SORT " + sort, x.set(0, 1, v), 1);
        due("element(0, 1) of SORT " + sort, x.element(0, 1), want);
        due("element(0, 0) beside it", x.element(0, 0), 0);
        due("element(0, 2) beside it", x.element(0, 2), 0);
    }

    private static final Making ROWS = both(with("free from 0 to 0"), x -> {
        ints(x, 0, 1, 2, 3, 4, 5);
        ints(x, 1, 6, 7, 8);
        x.row(2, 3, 5);
        x.put(3, 0);
        x.row(5, 2, 0);
    });

    private static void settingRefused() {
        of(3, "-1");
        for (int s : new int[] {LEAST, -1, 8, MOST}) {
            refused(ROWS, "set(" + s + ", 0, 9)", x -> x.set(s, 0, 9), -1);
            refused(ROWS, "set(" + s + ", -1, 9)", x -> x.set(s, -1, 9), -1);
        }
        of(3, "-2");
        refused(ROWS, "set(3, 0, 9) of a PROMISE", x -> x.set(3, 0, 9), -2);
        refused(ROWS, "set(3, -1, 9) of a PROMISE", x -> x.set(3, -1, 9), -2);
        of(3, "-3");
        refused(ROWS, "set(4, 0, 9) of NOTHING", x -> x.set(4, 0, 9), -3);
        refused(ROWS, "set(4, 60, 9) of NOTHING", x -> x.set(4, 60, 9), -3);
        of(3, "-5");
        for (int i : new int[] {LEAST, -1, 5, MOST}) refused(ROWS, "set(0, " + i + ", 9)", x -> x.set(0, i, 9), -5);
        refused(ROWS, "set(5, 0, 9) of an empty ROW", x -> x.set(5, 0, 9), -5);
        Making full = x -> x.row(0, 0, 60);
        refused(full, "set(0, 60, 9) of a full ROW", x -> x.set(0, 60, 9), -5);
    }

    private static void copied(int p, int q, int i, int j, int n, int... want) {
        KeptPromises x = made(ROWS);
        String call = "copy(" + p + ", " + q + ", " + i + ", " + j + ", " + n + ")";
        due(call, x.copy(p, q, i, j, n), 1);
        for (int k = 0; k < want.length; k++) due("element(" + q + ", " + k + ") after " + call, x.element(q, k), want[k]);
        due("the size after " + call, sizeOf(x, q), want.length);
        for (int k = 0; k < 5 && p != q && p == 0; k++) due("element(0, " + k + ") after " + call, x.element(0, k), k + 1);
    }

    private static void copying() {
        of(4, "Elements i, i + 1, .. of the ROW in SHELF p, n of them, come to elements j, j + 1, .. of that in q "
            + "(as they were ahead): 1");
        copied(0, 1, 0, 0, 3, 1, 2, 3);
        copied(0, 1, 2, 0, 3, 3, 4, 5);
        copied(0, 1, 4, 2, 1, 6, 7, 5);
        copied(1, 0, 0, 2, 3, 1, 2, 6, 7, 8);
        copied(0, 0, 0, 0, 5, 1, 2, 3, 4, 5);
        copied(0, 0, 0, 1, 4, 1, 1, 2, 3, 4);
        copied(0, 0, 1, 0, 4, 2, 3, 4, 5, 5);
        copied(0, 0, 0, 2, 3, 1, 2, 1, 2, 3);
        copied(0, 1, 0, 0, 0, 6, 7, 8);
        copied(0, 1, 5, 3, 0, 6, 7, 8);
        copied(5, 1, 0, 3, 0, 6, 7, 8);
        copied(1, 5, 3, 0, 0);
        copied(5, 5, 0, 0, 0);
        KeptPromises x = made(NEW);
        x.row(0, 3, 60);
        x.row(7, 3, 60);
        for (int i = 0; i < 60; i++) x.set(0, i, (long) i << 33);
        due("copy(0, 7, 0, 0, 60) of full ROWS", x.copy(0, 7, 0, 0, 60), 1);
        for (int i = 0; i < 60; i++) due("element(7, " + i + ")", x.element(7, i), (long) i << 33);
    }

    private static void copyRefused(int p, int q, int i, int j, int n, int want) {
        refused(ROWS, "copy(" + p + ", " + q + ", " + i + ", " + j + ", " + n + ")", x -> x.copy(p, q, i, j, n), want);
    }

    private static void copyingRefused() {
        of(4, "-1");
        for (int s : new int[] {LEAST, -1, 8, MOST}) {
            copyRefused(s, 0, 0, 0, 1, -1);
            copyRefused(0, s, 0, 0, 1, -1);
            copyRefused(s, 3, 0, 0, -1, -1);
            copyRefused(4, s, -1, 0, -1, -1);
        }
        of(4, "-2 also of two SORTS (when both hold something)");
        copyRefused(3, 0, 0, 0, 0, -2);
        copyRefused(0, 3, 0, 0, 0, -2);
        copyRefused(3, 3, 0, 0, 0, -2);
        copyRefused(3, 4, 0, 0, 0, -2);
        copyRefused(4, 3, 0, 0, 0, -2);
        copyRefused(0, 2, 0, 0, 0, -2);
        copyRefused(2, 0, 0, 0, 1, -2);
        copyRefused(5, 2, 0, 0, 0, -2);
        copyRefused(0, 2, 0, 0, -1, -2);
        copyRefused(0, 3, -1, 0, 1, -2);
        of(4, "-3 either");
        copyRefused(4, 0, 0, 0, 0, -3);
        copyRefused(0, 4, 0, 0, 0, -3);
        copyRefused(4, 4, 0, 0, 0, -3);
        copyRefused(2, 4, 0, 0, 1, -3);
        copyRefused(4, 0, -1, 0, -1, -3);
        of(4, "-4 n");
        copyRefused(0, 1, 0, 0, -1, -4);
        copyRefused(0, 1, 0, 0, LEAST, -4);
        copyRefused(0, 1, -1, 9, -1, -4);
        of(4, "-5 i or j below 0, or an end that isn't there");
        copyRefused(0, 1, -1, 0, 0, -5);
        copyRefused(0, 1, 0, -1, 0, -5);
        copyRefused(0, 1, LEAST, 0, 1, -5);
        copyRefused(0, 1, 0, LEAST, 1, -5);
        copyRefused(0, 1, 6, 0, 0, -5);
        copyRefused(0, 1, 0, 4, 0, -5);
        copyRefused(0, 1, 3, 0, 3, -5);
        copyRefused(0, 1, 0, 1, 3, -5);
        copyRefused(0, 0, 0, 1, 5, -5);
        copyRefused(0, 1, 0, 0, 4, -5);
        copyRefused(1, 0, 0, 0, 4, -5);
        copyRefused(5, 0, 0, 0, 1, -5);
        copyRefused(0, 5, 0, 0, 1, -5);
        copyRefused(0, 1, 1, 0, MOST, -5);
        copyRefused(0, 1, MOST, 0, 1, -5);
        copyRefused(0, 1, 0, MOST, 1, -5);
        copyRefused(0, 1, MOST, MOST, MOST, -5);
    }

    private static void elements() {
        of(5, "Element i of the ROW");
        KeptPromises x = made(ROWS);
        for (int i = 0; i < 5; i++) due("element(0, " + i + ")", x.element(0, i), i + 1);
        of(5, "0 if there is none (nothing is refused)");
        for (int i : new int[] {LEAST, -1, 5, MOST}) quiet(ROWS, "element(0, " + i + ")", y -> y.element(0, i), 0);
        for (int s : new int[] {LEAST, -1, 8, MOST}) quiet(ROWS, "element(" + s + ", 0)", y -> y.element(s, 0), 0);
        quiet(ROWS, "element(3, 0) of a PROMISE", y -> y.element(3, 0), 0);
        quiet(ROWS, "element(4, 0) of NOTHING", y -> y.element(4, 0), 0);
        quiet(ROWS, "element(5, 0) of an empty ROW", y -> y.element(5, 0), 0);
        Making full = y -> {
            y.row(0, 3, 60);
            for (int i = 0; i < 60; i++) y.set(0, i, i - 60);
        };
        for (int i : new int[] {-1, 60, 61}) quiet(full, "element(0, " + i + ") of a full ROW", y -> y.element(0, i), 0);
        quiet(full, "element(0, 59) of a full ROW", y -> y.element(0, 59), -1);
        Making over = both(ROWS, y -> y.put(0, 0));
        quiet(over, "element(0, 0) of a ROW that a PROMISE took the place of", y -> y.element(0, 0), 0);
        Making shorter = both(ROWS, y -> y.row(0, 2, 2));
        quiet(shorter, "element(0, 3) of a shorter ROW in its place", y -> y.element(0, 3), 0);
    }

    private static void putting() {
        of(6, "SHELF s holds a PROMISE, or NOTHING (promise NONE): 1, 0");
        KeptPromises x = made(both(SIX, with("do 1 from 0 to 0", "do 1 from 0 to 0", "free from 0 to 0")));
        due("put(0, 0)", x.put(0, 0), 1);
        due("put(7, 8) over a ROW", x.put(7, 8), 1);
        due("holds(7)", x.holds(7), 8);
        due("put(7, 3) over a PROMISE", x.put(7, 3), 1);
        due("holds(7)", x.holds(7), 3);
        due("put(7, NONE) over a PROMISE", x.put(7, KeptPromises.NONE), 0);
        due("holds(7)", x.holds(7), -1);
        due("put(7, NONE) over NOTHING", x.put(7, KeptPromises.NONE), 0);
        x.row(1, 0, 4);
        due("put(1, NONE) over a ROW", x.put(1, KeptPromises.NONE), 0);
        due("holds(1)", x.holds(1), -1);
        due("holds(0)", x.holds(0), 0);
        of(6, "-1");
        for (int s : new int[] {LEAST, -1, 8, MOST}) {
            refused(SIX, "put(" + s + ", 0)", y -> y.put(s, 0), -1);
            refused(SIX, "put(" + s + ", NONE)", y -> y.put(s, -1), -1);
        }
        for (int n : new int[] {LEAST, -2, 6, 9, 100, MOST}) refused(SIX, "put(7, " + n + ")", y -> y.put(7, n), -1);
        refused(NEW, "put(0, 0) without PROMISES", y -> y.put(0, 0), -1);
    }

    private static void holding() {
        Making some = both(SIX, with("do 1 from 0 to 0", "do 1 from 0 to 0", "free from 0 to 0"), x -> {
            for (int sort = 0; sort < 4; sort++) x.row(sort, sort, 0);
            x.put(4, 0);
            x.put(5, 8);
        });
        of(7, "What SHELF s holds: NONE NOTHING, or no such SHELF");
        quiet(some, "holds(6)", x -> x.holds(6), -1);
        for (int s : new int[] {LEAST, -1, 8, MOST}) quiet(some, "holds(" + s + ")", x -> x.holds(s), -1);
        for (int s = 0; s < 8; s++) due("holds(" + s + ") of a new object", made(NEW).holds(s), -1);
        of(7, "a PROMISE's number");
        quiet(some, "holds(4)", x -> x.holds(4), 0);
        quiet(some, "holds(5)", x -> x.holds(5), 8);
        of(7, "100 and the SORT of a ROW");
        for (int s = 0; s < 4; s++) due("holds(" + s + ")", made(some).holds(s), 100 + s);
    }

    private static final Making SHOWN = both(SIX, x -> {
        for (int n = 0; n < 6; n++) x.put(n, n);
        x.put(6, -1);
        x.hands(0, 2);
    });

    private static void saying() {
        KeptPromises x = made(SHOWN);
        x.work(6);
        x.work(1);
        of(8, "What the PROMISE in SHELF s, taken for one of a KIND, says: PROMISE for whom");
        int[] whom = {3, 0, 5, 1, 2, 4};
        for (int n = 0; n < 6; n++) due("says(" + n + ", 0)", x.says(n, 0), whom[n]);
        of(8, "ACT, ONCE LENGTH");
        int[] length = {2, 1, 3, 3};
        for (int n = 0; n < 4; n++) due("says(" + n + ", 1)", x.says(n, 1), length[n]);
        due("says(3, 4)", x.says(3, 4), 3);
        of(8, "WHOLE, AGAIN LEFT");
        due("says(1, 2) of one that is done", x.says(1, 2), 0);
        due("says(2, 3) of one that has begun", x.says(2, 3), 2);
        of(8, "NEVER its THING");
        for (int t = 0; t < 4; t++) {
            KeptPromises y = made("never " + t + " from 0 to 11");
            y.put(0, 0);
            due("says(0, 5) of never " + t, y.says(0, 5), t);
        }
        of(8, "FREE how many HOURS it has");
        due("says(5, 6)", x.says(5, 6), 1);
        KeptPromises all = made("free from 0 to 11");
        all.put(0, 0);
        due("says(0, 6) of all HOURS", all.says(0, 6), 12);
    }

    private static void sayingRefused() {
        of(8, "-1 SHELF, KIND");
        for (int s : new int[] {LEAST, -1, 8, MOST}) refused(SHOWN, "says(" + s + ", 0)", x -> x.says(s, 0), -1);
        for (int kind : new int[] {LEAST, -1, 7, MOST}) {
            refused(SHOWN, "says(0, " + kind + ")", x -> x.says(0, kind), -1);
            refused(SHOWN, "says(6, " + kind + ") of NOTHING", x -> x.says(6, kind), -1);
            refused(SHOWN, "says(7, " + kind + ") of a ROW", x -> x.says(7, kind), -1);
        }
        of(8, "-2 also a PROMISE of another KIND");
        for (int kind = 0; kind <= 6; kind++) {
            int k = kind;
            refused(SHOWN, "says(7, " + k + ") of a ROW", x -> x.says(7, k), -2);
            for (int n = 0; n < 6; n++) {
                int m = n;
                boolean fits = kind == 0 || kind == n + 1 || kind == 1 && n < 4;
                if (!fits) refused(SHOWN, "says(" + m + ", " + k + ")", x -> x.says(m, k), -2);
                else quiet(SHOWN, "says(" + m + ", " + k + ")", x -> x.says(m, k), said(m, k));
            }
        }
        of(8, "-3");
        for (int kind = 0; kind <= 6; kind++) {
            int k = kind;
            refused(SHOWN, "says(6, " + k + ") of NOTHING", x -> x.says(6, k), -3);
        }
    }

    /** What the six say at first. */
    private static int said(int promise, int kind) {
        int[] whom = {3, 0, 5, 1, 2, 4};
        int[] else_ = {2, 1, 3, 3, 3, 1};
        return kind == 0 ? whom[promise] : else_[promise];
    }
}
