import java.io.IOException;

/** The boundary cases of promises 32 to 42: rows told by hand, hours that go by, acts, the image, status. */
public final class HandBoundaryTest extends Bounds {
    private static final int[] NO_OUTCOMES = {LEAST, -1, 8, MOST};
    private static final int[] NO_SHELVES = {LEAST, -1, 8, MOST};

    /** Shelf 0 holds a row of twelve, 1 an empty one, 2 a PROMISE, 3 NOTHING. */
    private static final Making SOME = both(with("do 2 from 0 to 2 with 1 owe 9", "whole 2 from 1 to 11 if 0=1 owe 4 for 5",
        "free from 2 to 3 if 1=1 owe 2", "never 1 from 1 to 1 if 2=1 owe 30 for 5"), x -> {
            ints(x, 0, 1, 1, 0, 0, 0, 0, 0, 0, 0, 0, 2, 2);
            x.row(1, 0, 0);
            x.put(2, 0);
            x.put(3, -1);
        });

    public static void main(String[] args) throws IOException {
        judge();
        judgeRefused();
        lost();
        owed();
        handRefused();
        work();
        workRefused();
        debt();
        mend();
        mendRefused();
        act();
        trace();
        image();
        restore();
        restoreRefused();
        status();
        lastCalls();
        end("HandBoundaryTest", 32, 42);
    }

    private static Making row(int... sets) {
        return both(SOME, x -> ints(x, 0, sets));
    }

    private static void judge() {
        of(32, "CLASH of the ROW in SHELF s by an OUTCOME: 10 times the HOUR and why");
        quiet(row(4), "judge(0, 0) in HOUR 0", x -> x.judge(0, 0), 1);
        quiet(row(0, 0, 0, 0, 0, 0, 0, 0, 0, 0, 0, 4), "judge(0, 0) in HOUR 11", x -> x.judge(0, 0), 111);
        quiet(both(row(1), x -> x.hands(0, 0)), "judge(0, 0) without HANDS", x -> x.judge(0, 0), 2);
        quiet(both(row(0, 0, 0, 0, 0, 0, 0, 0, 0, 0, 0, 2), x -> x.hands(11, 0)), "judge(0, 1) in HOUR 11 without HANDS",
            x -> x.judge(0, 1), 112);
        Making thing = both(row(17), with("do 1 from 0 to 11 with 1"), x -> x.hands(0, 2));
        quiet(thing, "judge(0, 0) of a THING twice", x -> x.judge(0, 0), 3);
        quiet(row(0, 0, 1), "judge(0, 2) on a FREE HOUR", x -> x.judge(0, 2), 24);
        quiet(row(0, 1), "judge(0, 4) of a THING that is for NEVER", x -> x.judge(0, 4), 15);
        quiet(row(0, 2), "judge(0, 0) of one that isn't ASKED", x -> x.judge(0, 0), 11);
        of(32, "NONE");
        quiet(SOME, "judge(0, 1)", x -> x.judge(0, 1), -1);
        quiet(SOME, "judge(1, 7) of an empty ROW", x -> x.judge(1, 7), -1);
        quiet(row(new int[60]), "judge(0, 7) of a ROW of zeroes", x -> x.judge(0, 7), -1);
        int[] beyond = new int[13];
        beyond[12] = 511;
        quiet(row(beyond), "judge(0, 0) of what comes after HOUR 11", x -> x.judge(0, 0), -1);
        quiet(x -> ints(x, 0, 0, 0), "judge(0, 0) without PROMISES", x -> x.judge(0, 0), -1);
        quiet(both(SOME, idle(12)), "judge(0, 1) when all is over", x -> x.judge(0, 1), -1);
    }

    private static void judgeRefused() {
        of(32, "-11 SHELF");
        for (int s : NO_SHELVES) {
            refused(SOME, "judge(" + s + ", 0)", x -> x.judge(s, 0), -11);
            refused(SOME, "judge(" + s + ", 8)", x -> x.judge(s, 8), -11);
        }
        of(32, "-12");
        refused(SOME, "judge(2, 0) of a PROMISE", x -> x.judge(2, 0), -12);
        refused(SOME, "judge(2, 8) of a PROMISE", x -> x.judge(2, 8), -12);
        of(32, "-13");
        refused(SOME, "judge(3, 0) of NOTHING", x -> x.judge(3, 0), -13);
        refused(SOME, "judge(3, 8) of NOTHING", x -> x.judge(3, 8), -13);
        of(32, "-16 OUTCOME (counted as -1, -2, -3, -6)");
        for (int o : NO_OUTCOMES) {
            refused(SOME, "judge(0, " + o + ")", x -> x.judge(0, o), -16);
            refused(SOME, "judge(1, " + o + ") of an empty ROW", x -> x.judge(1, o), -16);
        }
    }

    private static void lost() {
        of(33, "LOST ones (bits) in the end of it");
        int[] none = {1, 3, 1, 3, 1, 3, 1, 3};
        int[] some = {0, 0, 0, 0, 9, 9, 9, 9};
        for (int o = 0; o < 8; o++) {
            int outcome = o;
            quiet(SOME, "lost(1, " + o + ") of an empty ROW", x -> x.lost(1, outcome), none[o]);
            // By half of them the second isn't asked: its sets clash, but it doesn't get lost.
            quiet(SOME, "lost(0, " + o + ")", x -> x.lost(0, outcome), some[o]);
        }
        quiet(row(1, 0, 1), "lost(0, 2) by a FREE one", x -> x.lost(0, 2), 5);
        quiet(row(1, 0, 1), "lost(0, 0)", x -> x.lost(0, 0), 0);
        quiet(both(SOME, idle(12)), "lost(0, 0) when all is over", x -> x.lost(0, 0), 0);
        quiet(x -> x.row(0, 0, 0), "lost(0, 0) without PROMISES", x -> x.lost(0, 0), 0);
        Making nine = both(with("free from 0 to 0", "free from 0 to 0", "free from 0 to 0", "do 1 from 0 to 11", "do 1 from 0 to 11",
            "do 1 from 0 to 11", "do 1 from 0 to 11", "do 1 from 0 to 11", "do 1 from 0 to 11"), x -> ints(x, 0, 256, 0));
        quiet(nine, "lost(0, 0) of all nine", x -> x.lost(0, 0), 511);
    }

    private static void owed() {
        of(34, "OWED in the end of it to one of the PEOPLE");
        int[][] due = {{9, 0}, {9, 4}, {9, 0}, {9, 4}, {9, 0}, {9, 4}, {9, 0}, {9, 4}};
        for (int o = 0; o < 8; o++) {
            int outcome = o;
            quiet(SOME, "owed(1, " + o + ", 0)", x -> x.owed(1, outcome, 0), due[o][0]);
            quiet(SOME, "owed(1, " + o + ", 5)", x -> x.owed(1, outcome, 5), due[o][1]);
            quiet(SOME, "owed(0, " + o + ", 5)", x -> x.owed(0, outcome, 5), o >= 4 ? 30 : 0);
            for (int w = 1; w < 5; w++) {
                int whom = w;
                quiet(SOME, "owed(1, " + o + ", " + w + ")", x -> x.owed(1, outcome, whom), 0);
            }
        }
        Making all = both(with("do 1 from 0 to 0 owe 99 for 3", "do 1 from 0 to 0 owe 99 for 3", "do 1 from 0 to 0 owe 99 for 3",
            "do 1 from 0 to 0 owe 99 for 3", "do 1 from 0 to 0 owe 99 for 3", "do 1 from 0 to 0 owe 99 for 3"), x -> x.row(0, 3, 60));
        quiet(all, "owed(0, 0, 3) of six", x -> x.owed(0, 0, 3), 594);
    }

    private static void handRefused() {
        for (int s : NO_SHELVES) {
            of(33, "-1");
            refused(SOME, "lost(" + s + ", 0)", x -> x.lost(s, 0), -1);
            refused(SOME, "lost(" + s + ", 8)", x -> x.lost(s, 8), -1);
            of(34, "-1 also of the PEOPLE");
            refused(SOME, "owed(" + s + ", 0, 0)", x -> x.owed(s, 0, 0), -1);
            refused(SOME, "owed(" + s + ", 8, 6)", x -> x.owed(s, 8, 6), -1);
        }
        for (int w : new int[] {LEAST, -1, 6, MOST}) {
            refused(SOME, "owed(0, 0, " + w + ")", x -> x.owed(0, 0, w), -1);
            refused(SOME, "owed(2, 0, " + w + ") of a PROMISE", x -> x.owed(2, 0, w), -1);
            refused(SOME, "owed(3, 0, " + w + ") of NOTHING", x -> x.owed(3, 0, w), -1);
            refused(SOME, "owed(0, 8, " + w + ")", x -> x.owed(0, 8, w), -1);
        }
        for (int o : new int[] {0, 8}) {
            of(33, "-2");
            refused(SOME, "lost(2, " + o + ") of a PROMISE", x -> x.lost(2, o), -2);
            of(33, "-3");
            refused(SOME, "lost(3, " + o + ") of NOTHING", x -> x.lost(3, o), -3);
            of(34, "-2");
            refused(SOME, "owed(2, " + o + ", 0) of a PROMISE", x -> x.owed(2, o, 0), -2);
            of(34, "-3");
            refused(SOME, "owed(3, " + o + ", 0) of NOTHING", x -> x.owed(3, o, 0), -3);
        }
        for (int o : NO_OUTCOMES) {
            of(33, "-6");
            refused(SOME, "lost(0, " + o + ")", x -> x.lost(0, o), -6);
            of(34, "-6");
            refused(SOME, "owed(0, " + o + ", 5)", x -> x.owed(0, o, 5), -6);
        }
    }

    // ---- hours that go by

    private static void work() {
        of(35, "A set of WORKS is done in NOW, by TURNED");
        KeptPromises x = made("do 1 from 0 to 11 if 0=1", "do 1 from 0 to 11 if 0=0", "do 1 from 0 to 11");
        x.hands(0, 2);
        due("work(1), not ASKED by TURNED", x.work(1), -6);
        due("work(6)", x.work(6), 0);
        for (int n = 0; n < 3; n++) due("LEFT of " + n, x.promiseOf(n, 10), n == 0 ? 1 : 0);
        due("NOW", x.status(3), 1);
        KeptPromises y = made(both(with("do 1 from 0 to 11 if 0=1"), z -> z.turn(0, 1)));
        due("work(1), ASKED by TURNED", y.work(1), 0);
        of(35, "the HOUR goes by: the WORKS (bits) that got LOST in it");
        KeptPromises six = made("free from 0 to 11", "free from 0 to 11", "free from 0 to 11", "do 1 from 0 to 0", "do 1 from 0 to 1",
            "do 1 from 0 to 1", "do 1 from 0 to 11 if 2=1", "do 1 from 0 to 11", "do 1 from 0 to 0");
        int[] lost = {8 + 256, 16 + 32, 0, 0, 0, 0, 0, 0, 0, 0, 0, 128};
        for (int h = 0; h < 12; h++) {
            due("work(0) in HOUR " + h, six.work(0), lost[h]);
            due("NOW", six.status(3), h + 1);
        }
        due("status(2)", six.status(2), 5);
        for (int n = 0; n < 9; n++) due("promiseOf(" + n + ", 11)", six.promiseOf(n, 11), n < 3 || n == 6 ? 0 : 1);
        KeptPromises none = made(NEW);
        for (int h = 0; h < 12; h++) due("work(0) without PROMISES in HOUR " + h, none.work(0), 0);
    }

    private static void workRefused() {
        of(35, "-6 it may not be done, NOW is 12");
        Making some = both(with("do 2 from 1 to 3 with 1", "do 1 from 0 to 0", "do 1 from 1 to 3 with 1", "free from 2 to 2",
            "never 1 from 3 to 3", "do 1 from 0 to 11 after 0", "do 1 from 0 to 11 if 1=0"), x -> x.known(1, 2), x -> x.work(0),
            x -> x.hands(1, 2));
        int[] wrong = {LEAST, -1, 2, 3, 8, 16, 32, 33, 64, 65, 5, 69, 128, 129, 1 << 9, 1 << 31, MOST};
        for (int set : wrong) refused(some, "work(" + set + ")", x -> x.work(set), -6);
        due("work(1)", made(some).work(1), 0);
        due("work(4)", made(some).work(4), 0);
        Making free = both(some, x -> x.work(0));
        refused(free, "work(1) in a FREE HOUR", x -> x.work(1), -6);
        due("work(0) in a FREE HOUR", made(free).work(0), 0);
        Making never = both(free, x -> x.work(0));
        refused(never, "work(1) with a THING that is for NEVER", x -> x.work(1), -6);
        due("work(64) without it", made(never).work(64), 1 + 4);
        refused(both(some, x -> x.hands(1, 0)), "work(1) without HANDS", x -> x.work(1), -6);
        Making two = both(with("do 1 from 0 to 1", "do 1 from 0 to 1"), x -> x.hands(0, 1));
        refused(two, "work(3) with one of the HANDS", x -> x.work(3), -6);
        due("work(3) with two", made(both(two, x -> x.hands(0, 2))).work(3), 0);
        for (int set : new int[] {0, 1, -1}) {
            refused(both(some, idle(11)), "work(" + set + ") when all is over", x -> x.work(set), -6);
            refused(idle(12), "work(" + set + ") when all is over, without PROMISES", x -> x.work(set), -6);
        }
    }

    private static final Making OWING = both(with("do 1 from 0 to 0 owe 7 for 2", "do 1 from 0 to 0 owe 99 for 2",
        "do 1 from 0 to 5 owe 20 for 2", "do 1 from 0 to 0 owe 50 for 5", "free from 0 to 0 owe 30 for 2", "do 1 from 0 to 0 for 0",
        "never 0 from 0 to 0 owe 30 for 2", "do 1 from 0 to 0 if 0=1 owe 30 for 2"), idle(1));

    private static void debt() {
        of(36, "OWED of LOST WORKS to one of the PEOPLE");
        int[] due = {0, 0, 106, 0, 0, 50};
        for (int w = 0; w < 6; w++) {
            int whom = w;
            quiet(OWING, "debt(" + w + ")", x -> x.debt(whom), due[w]);
            quiet(NEW, "debt(" + w + ") without PROMISES", x -> x.debt(whom), 0);
        }
        quiet(both(OWING, idle(5)), "debt(2) when one more is LOST", x -> x.debt(2), 126);
        quiet(both(OWING, x -> x.mend(1, 2)), "debt(2) when one is forgiven", x -> x.debt(2), 7);
        of(36, "-1");
        for (int w : new int[] {LEAST, -1, 6, MOST}) {
            refused(OWING, "debt(" + w + ")", x -> x.debt(w), -1);
            refused(NEW, "debt(" + w + ") without PROMISES", x -> x.debt(w), -1);
        }
    }

    private static void mended(int owed, int how, int want) {
        KeptPromises x = made(both(with("do 1 from 0 to 0 owe " + owed + " for 3", "do 1 from 0 to 0 owe 1 for 3"), idle(1)));
        due("mend(0, " + how + ") of " + owed, x.mend(0, how), want);
        due("promiseOf(0, 7)", x.promiseOf(0, 7), want);
        due("promiseOf(1, 7)", x.promiseOf(1, 7), 1);
        due("debt(3)", x.debt(3), want + 1);
        due("promiseOf(0, 11)", x.promiseOf(0, 11), 1);
        due("no REFUSALS", x.status(11) + x.status(16), 0);
    }

    private static void mend() {
        of(37, "OWED of a LOST WORK is halved (how 0, cut), doubled (1; 99 at most), forgiven (2): what it is then");
        int[][] halved = {{0, 0}, {1, 0}, {2, 1}, {3, 1}, {50, 25}, {98, 49}, {99, 49}};
        for (int[] o : halved) mended(o[0], 0, o[1]);
        int[][] doubled = {{0, 0}, {1, 2}, {48, 96}, {49, 98}, {50, 99}, {51, 99}, {98, 99}, {99, 99}};
        for (int[] o : doubled) mended(o[0], 1, o[1]);
        for (int o : new int[] {0, 1, 99}) mended(o, 2, 0);
        KeptPromises x = made(both(with("do 1 from 0 to 0 owe 99"), idle(1)));
        int[] again = {49, 24, 12, 6, 3, 1, 0, 0};
        for (int o : again) due("mend(0, 0) again", x.mend(0, 0), o);
        due("mend(0, 1) of 0", x.mend(0, 1), 0);
    }

    private static void mendRefused() {
        of(37, "-1");
        for (int n : new int[] {LEAST, -1, 8, 9, MOST}) {
            refused(OWING, "mend(" + n + ", 0)", x -> x.mend(n, 0), -1);
            refused(OWING, "mend(" + n + ", 3)", x -> x.mend(n, 3), -1);
        }
        refused(NEW, "mend(0, 0) without PROMISES", x -> x.mend(0, 0), -1);
        of(37, "-6 how, it isn't LOST");
        for (int how : new int[] {LEAST, -1, 3, MOST}) {
            refused(OWING, "mend(0, " + how + ")", x -> x.mend(0, how), -6);
            refused(OWING, "mend(2, " + how + ") of one that isn't LOST", x -> x.mend(2, how), -6);
        }
        for (int how = 0; how < 3; how++) {
            int h = how;
            refused(OWING, "mend(2, " + how + ") of one that may still be done", x -> x.mend(2, h), -6);
            refused(OWING, "mend(4, " + how + ") of a FREE one", x -> x.mend(4, h), -6);
            refused(OWING, "mend(6, " + how + ") of a NEVER one", x -> x.mend(6, h), -6);
            refused(OWING, "mend(7, " + how + ") of one that wasn't ASKED", x -> x.mend(7, h), -6);
        }
    }

    // ---- acts

    private static final Making KINDS = with("do 1 from 0 to 3 owe 4", "whole 1 from 0 to 3 owe 9", "again 2 from 0 to 3 owe 2",
        "once 1 from 0 to 3 if 0=1 owe 1", "never 0 from 0 to 1 owe 3", "free from 0 to 1 owe 8");

    private static void act() {
        of(38, "An ACT of a PROMISE with x");
        int[][] due = {{21, 42, 42 ^ 9}, {24, 57, 57 ^ -3}, {27, 54, 60 ^ 24}, {-30, -60, -60 ^ -27}, {11, 22, (22 ^ 8) - 4},
            {12, 24 ^ 5, 29 ^ 4}};
        KeptPromises x = made(KINDS);
        for (int n = 0; n < 6; n++) {
            for (int a = 0; a < 3; a++) due("act(" + n + ", " + a + ", 7)", x.act(n, a, 7), due[n][a]);
        }
        due("act(0, 0, most)", x.act(0, 0, MOST), MOST * 3);
        due("act(1, 0, most)", x.act(1, 0, MOST), LEAST * 3);
        due("act(0, 2, least)", x.act(0, 2, LEAST), LEAST * 6 ^ (MOST - 3) * 3);
        due("act(2, 2, most)", x.act(2, 2, MOST), (LEAST + 2) * 6 ^ LEAST * 3);
        of(38, "0, and no TRACE then: no such PROMISE, act");
        for (int n : new int[] {LEAST, -1, 6, 9, MOST}) noAct(n, 0);
        for (int a : new int[] {LEAST, -1, 3, MOST}) noAct(0, a);
        noAct(-1, -1);
        KeptPromises none = made(NEW);
        due("act(0, 0, 7) without PROMISES", none.act(0, 0, 7), 0);
        due("status(5)", none.status(5), 0);
    }

    private static void noAct(int promise, int act) {
        KeptPromises x = made(KINDS);
        x.act(3, 2, 7);
        due("act(" + promise + ", " + act + ", 7)", x.act(promise, act, 7), 0);
        for (int i = -1; i <= 20; i++) due("trace(" + i + ") after it", x.trace(i), -1);
        due("status(5) after it", x.status(5), 0);
        for (int i = 11; i <= 17; i++) due("status(" + i + ") after it", x.status(i), 0);
    }

    private static void trace() {
        Making ran = both(KINDS, x -> x.act(3, 2, 7));
        of(39, "THE TRACE's i-th body");
        int[] bodies = {12, 11, 50, 20, 10, 50, 20, 10};
        for (int i = 0; i < 8; i++) {
            int place = i;
            quiet(ran, "trace(" + i + ")", x -> x.trace(place), bodies[i]);
        }
        Making less = both(ran, x -> x.act(4, 0, 7));
        quiet(less, "trace(0) of a shorter one", x -> x.trace(0), 10);
        of(39, "NONE: none such");
        for (int i : new int[] {LEAST, -1, 8, 19, 20, 60, MOST}) quiet(ran, "trace(" + i + ")", x -> x.trace(i), -1);
        quiet(less, "trace(1) of a shorter one", x -> x.trace(1), -1);
        quiet(NEW, "trace(0) of a new object", x -> x.trace(0), -1);
    }

    // ---- the image

    private static final Making CHANGE = x -> {
        Texts.promise(x, "free from 5 to 5");
        x.put(0, 2);
        x.put(1, 1);
        x.row(2, 1, 3);
        x.set(2, 1, 77);
        for (int h = 0; h < 12; h++) x.hands(h, h % 3);
        for (int f = 0; f < 3; f++) x.known(f, 11 - f);
        for (int f = 0; f < 3; f++) x.turn(f, 1);
        x.swap(1, 0);
        x.work(0);
        x.mend(0, 1);
        x.debt(6);
        Texts.promise(x, "free from");
        x.act(1, 2, 3);
    };

    private static void image() {
        of(40, "THE IMAGE of all but SHELVES (and THE IMAGE, REFUSALS, the FAULT, THE TRACE) is taken: how many PROMISES");
        quietAnswer("image() of a new object", NEW, 0);
        quietAnswer("image() of six", KINDS, 6);
        quietAnswer("image() of nine", both(KINDS, with("do 1 from 0 to 0", "free from 0 to 0", "do 1 from 0 to 0")), 9);
        quietAnswer("image() when all is over", both(KINDS, idle(12)), 6);
        KeptPromises x = made(both(with("do 1 from 0 to 0 owe 8", "do 1 from 0 to 3"), y -> y.image(), CHANGE));
        due("restore()", x.restore(), 2);
        due("the FAULT stays", x.fault(), 9);
        due("THE TRACE stays", x.trace(0), 12);
        due("its length stays", x.status(5), 6);
        due("REFUSALS -1 stay", x.status(11), 1);
        due("REFUSALS -6 stay", x.status(16), 1);
        due("a SHELF's ROW stays", x.element(2, 1), 77);
        due("a SHELF's ROW stays", x.holds(2), 101);
        due("THE IMAGE stays", x.restore(), 2);
        due("the ROW that was read stays", x.holds(7), 100);
    }

    private static void quietAnswer(String call, Making first, int want) {
        KeptPromises x = made(first);
        due(call, x.image(), want);
        due(call + " a second time", x.image(), want);
        for (int i = 11; i <= 17; i++) due("status(" + i + ") after it", x.status(i), 0);
    }

    private static void restore() {
        of(41, "All is as THE IMAGE has it");
        Making first = both(with("do 1 from 0 to 0 owe 8", "do 1 from 0 to 3"), x -> {
            for (int h = 0; h < 12; h++) x.hands(h, (h + 1) % 3);
            for (int f = 0; f < 3; f++) x.known(f, f + 4);
            x.turn(1, 1);
        });
        KeptPromises x = made(both(first, y -> y.image(), CHANGE));
        due("restore()", x.restore(), 2);
        int[] status = {2, 2, 0, 0, 2};
        for (int i = 0; i < 5; i++) due("status(" + i + ")", x.status(i), status[i]);
        int[][] told = {{1, 0, 0, -1, -1, -1, 0, 8, 0, 1, 1, 0}, {1, 0, 3, -1, -1, -1, 0, 0, 0, 1, 1, 0}};
        for (int n = 0; n < 2; n++) {
            for (int what = 0; what < 12; what++) due("promiseOf(" + n + ", " + what + ")", x.promiseOf(n, what), told[n][what]);
        }
        for (int h = 0; h < 12; h++) due("hands(" + h + ", 0)", x.hands(h, 0), (h + 1) % 3);
        for (int f = 0; f < 3; f++) due("known(" + f + ", 0)", x.known(f, 0), f + 4);
        due("a PROMISE after it", Texts.promise(x, "free from 0 to 0"), 2);
        due("restore() once more", x.restore(), 2);
        for (int h = 0; h < 12; h++) due("hands(" + h + ", 0)", x.hands(h, 0), (h + 1) % 3);
        KeptPromises later = made(both(first, y -> y.work(1), y -> y.image(), y -> y.work(2), y -> y.image(), idle(10)));
        due("restore() of the latest", later.restore(), 2);
        due("status(3)", later.status(3), 2);
        due("promiseOf(1, 10)", later.promiseOf(1, 10), 0);
        KeptPromises lost = made(both(first, idle(1), y -> y.mend(0, 1), y -> y.image(), y -> y.mend(0, 2), idle(11)));
        due("restore() with a LOST one", lost.restore(), 2);
        due("status(2)", lost.status(2), 1);
        due("promiseOf(0, 11)", lost.promiseOf(0, 11), 1);
        due("promiseOf(0, 7) as mended", lost.promiseOf(0, 7), 16);
        due("promiseOf(1, 11)", lost.promiseOf(1, 11), 0);
        KeptPromises more = made(both(y -> y.image(), KINDS, y -> y.put(0, 0)));
        due("restore() of no PROMISES", more.restore(), 0);
        due("status(1)", more.status(1), 0);
        due("holds(0)", more.holds(0), -1);
        for (int n = 0; n < 6; n++) due("WORK " + n + " after it", Texts.promise(more, "do 1 from 0 to 0"), n);
        due("a seventh", Texts.promise(more, "do 1 from 0 to 0"), -7);
    }

    private static void restoreRefused() {
        of(41, "SHELVES with PROMISES hold the PROMISES of these numbers, or NOTHING: how many PROMISES");
        KeptPromises x = made(both(KINDS, y -> y.image(), with("free from 3 to 3", "do 1 from 0 to 0")));
        for (int s = 0; s < 8; s++) x.put(s, s);
        due("restore()", x.restore(), 6);
        for (int s = 0; s < 8; s++) due("holds(" + s + ")", x.holds(s), s < 6 ? s : -1);
        KeptPromises other = made("do 1 from 0 to 0 for 3");
        other.image();
        other.put(0, 0);
        other.work(0);
        other.put(1, 0);
        other.row(2, 3, 1);
        due("restore()", other.restore(), 1);
        due("holds(0)", other.holds(0), 0);
        due("says(0, 2)", other.says(0, 0), 3);
        due("holds(1)", other.holds(1), 0);
        due("holds(2) of a ROW", other.holds(2), 103);
        due("holds(3) of NOTHING", other.holds(3), -1);
        of(41, "-6 there is none");
        refused(NEW, "restore() of a new object", y -> y.restore(), -6);
        refused(KINDS, "restore() without THE IMAGE", y -> y.restore(), -6);
        refused(both(KINDS, idle(12)), "restore() when all is over", y -> y.restore(), -6);
    }

    private static void status() {
        of(42, "How many: 0 PROMISES, 1 WORKS, 2 LOST ones, 3 NOW, 4 TURNED (bits), 5 bodies that ran in the latest act() (all, "
            + "kept or not)");
        int[][] due = {{0, 0, 0, 0, 0, 0}, {6, 4, 0, 0, 0, 0}, {8, 6, 4, 1, 0, 0}, {6, 4, 3, 12, 7, 8}};
        Making[] ones = {NEW, KINDS, OWING, both(KINDS, x -> x.turn(0, 1), x -> x.turn(1, 1), x -> x.turn(2, 1), idle(2),
            x -> x.work(1), idle(9), x -> x.act(3, 2, 1))};
        for (int k = 0; k < 4; k++) {
            for (int what = 0; what < 6; what++) {
                int w = what;
                quiet(ones[k], "status(" + what + ") of " + k, x -> x.status(w), due[k][what]);
            }
        }
        of(42, "11 to 17: REFUSALS -1 to -7");
        Making each = x -> {
            Texts.promise(x, "free from 0 to 0");
            x.put(1, 0);
            for (int k = 0; k < 1; k++) x.debt(6);
            for (int k = 0; k < 2; k++) x.set(1, 0, 0);
            for (int k = 0; k < 3; k++) x.set(2, 0, 0);
            for (int k = 0; k < 4; k++) x.row(2, 0, -1);
            for (int k = 0; k < 5; k++) x.promiseOf(1, 0);
            for (int k = 0; k < 6; k++) x.can(8);
            for (int k = 0; k < 7; k++) x.row(2, 0, 61);
        };
        for (int what = 11; what <= 17; what++) {
            int w = what;
            quiet(each, "status(" + what + ")", x -> x.status(w), what - 10);
            quiet(NEW, "status(" + what + ") of a new object", x -> x.status(w), 0);
        }
        KeptPromises x = made(each);
        x.swap(5, 5);
        x.judge(8, 0);
        due("status(11) with -11", x.status(11), 3);
        x.judge(1, 0);
        due("status(12) with -12", x.status(12), 3);
        x.judge(2, 0);
        due("status(13) with -13", x.status(13), 4);
        x.judge(7, 8);
        x.spare(8);
        due("status(16) with -16, -1000", x.status(16), 8);
        Texts.promise(x, "do 1 from 0 to 0");
        x.swap(1, 1);
        due("status(16) with -16", x.status(16), 9);
        of(42, "NONE for another what");
        for (int what : new int[] {LEAST, -1, 6, 7, 8, 9, 10, 18, 19, 100, MOST}) {
            quiet(each, "status(" + what + ")", y -> y.status(what), -1);
        }
    }

    /** An object is used for at most 512 calls: the last of them still answers as it should. */
    private static void lastCalls() {
        of(42, "11 to 17: REFUSALS -1 to -7");
        KeptPromises x = made(NEW);
        for (int k = 0; k < 511; k++) x.row(8, 0, 0);
        due("the 512th call: status(11)", x.status(11), 511);
        of(42, "How many: 0 PROMISES, 1 WORKS, 2 LOST ones, 3 NOW");
        KeptPromises y = made("do 1 from 0 to 0", "do 1 from 3 to 3");
        for (int k = 36; k < 511; k++) y.dear(k & 7);
        due("the last call: status(0)", y.status(0), 2);
    }
}
