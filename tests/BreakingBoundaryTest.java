import java.io.IOException;

/** The boundary cases of promises 21 to 31: what can't be kept, what can still be given, rings. */
public final class BreakingBoundaryTest extends Bounds {
    private static final int[] NO_OUTCOMES = {LEAST, -1, 8, MOST};
    private static final Making SOME = with("do 2 from 0 to 2 with 1 owe 9", "do 1 from 1 to 1 if 0=1 owe 4",
        "free from 2 to 2 if 1=1 owe 2", "never 1 from 0 to 0 if 2=1 owe 1");

    public static void main(String[] args) throws IOException {
        quarrel();
        dear();
        fewest();
        ends();
        must();
        spare();
        doomed();
        give();
        giveRefused();
        many();
        manyRefused();
        ring();
        opening();
        end("BreakingBoundaryTest", 21, 31);
    }

    interface Reading {
        int of(KeptPromises x, int s);
    }

    private static Making text(String text) {
        return x -> Texts.write(x, 0, 0, text);
    }

    private static void quarrel() {
        // Two of the hours 0 to 2 for the first; 1 is taken by the second, 2 by the FREE, 0 by the NEVER one.
        int[] due = {0, 0, 0, 7, 0, 11, 13, 13};
        of(21, "QUARREL (bits)");
        for (int o = 0; o < 8; o++) {
            int outcome = o;
            quiet(SOME, "quarrel(" + o + ")", x -> x.quarrel(outcome), due[o]);
        }
        quiet(both(with("do 1 from 0 to 0"), idle(1)), "quarrel(0) of a LOST one", x -> x.quarrel(0), 1);
        quiet(both(with("do 1 from 0 to 0"), idle(12)), "quarrel(7) when all is over", x -> x.quarrel(7), 1);
        Making last = with("free from 0 to 0", "free from 0 to 0", "do 1 from 1 to 1", "do 1 from 2 to 2", "do 1 from 3 to 3",
            "do 1 from 4 to 4", "do 1 from 5 to 5", "do 1 from 0 to 0", "free from 0 to 0");
        quiet(last, "quarrel(0) of the last of nine", x -> x.quarrel(0), 128 + 256);
        of(21, "0: there is a KEEPING");
        quiet(NEW, "quarrel(0) without PROMISES", x -> x.quarrel(0), 0);
        quiet(idle(12), "quarrel(0) when all is over", x -> x.quarrel(0), 0);
        of(21, "-6 OUTCOME");
        for (int o : NO_OUTCOMES) {
            refused(SOME, "quarrel(" + o + ")", x -> x.quarrel(o), -6);
            refused(NEW, "quarrel(" + o + ") without PROMISES", x -> x.quarrel(o), -6);
        }
    }

    private static void dear() {
        of(22, "LEAST OWED by an OUTCOME");
        int[] due = {0, 0, 0, 2, 0, 1, 1, 3};
        for (int o = 0; o < 8; o++) {
            int outcome = o;
            quiet(SOME, "dear(" + o + ")", x -> x.dear(outcome), due[o]);
        }
        quiet(NEW, "dear(7) without PROMISES", x -> x.dear(7), 0);
        quiet(both(SOME, idle(12)), "dear(0) when all is over", x -> x.dear(0), 9);
        quiet(both(SOME, idle(12)), "dear(7) when all is over, one wasn't ASKED", x -> x.dear(7), 9);
        of(22, "-6");
        for (int o : NO_OUTCOMES) {
            refused(SOME, "dear(" + o + ")", x -> x.dear(o), -6);
            refused(NEW, "dear(" + o + ") without PROMISES", x -> x.dear(o), -6);
        }
    }

    private static void fewest() {
        of(23, "FEWEST by an OUTCOME");
        int[] due = {0, 0, 0, 1, 0, 1, 1, 1};
        for (int o = 0; o < 8; o++) {
            int outcome = o;
            quiet(SOME, "fewest(" + o + ")", x -> x.fewest(outcome), due[o]);
        }
        quiet(NEW, "fewest(7) without PROMISES", x -> x.fewest(7), 0);
        quiet(both(SOME, idle(12)), "fewest(0) when all is over", x -> x.fewest(0), 1);
        of(23, "-6");
        for (int o : NO_OUTCOMES) {
            refused(SOME, "fewest(" + o + ")", x -> x.fewest(o), -6);
            refused(NEW, "fewest(" + o + ") without PROMISES", x -> x.fewest(o), -6);
        }
    }

    private static void ends() {
        of(24, "ENDS: 100 times the last and the first");
        quiet(with("do 1 from 0 to 0"), "ends(0, 0) of the first HOUR", x -> x.ends(0, 0), 0);
        quiet(with("do 1 from 0 to 11"), "ends(0, 0) of all HOURS", x -> x.ends(0, 0), 1100);
        quiet(with("do 1 from 11 to 11"), "ends(0, 7) of the last HOUR", x -> x.ends(0, 7), 1111);
        int[] due = {100, 0, 0, -5, 101, -5, -5, -5};
        for (int o = 0; o < 8; o++) {
            int outcome = o;
            if (due[o] >= 0) quiet(SOME, "ends(0, " + o + ")", x -> x.ends(0, outcome), due[o]);
            else refused(SOME, "ends(0, " + o + ") without a KEEPING", x -> x.ends(0, outcome), -5);
        }
        of(24, "-5: no such WORK, OUTCOME, it has begun, none");
        for (int n : new int[] {LEAST, -1, 2, 3, 4, 9, MOST}) {
            refused(SOME, "ends(" + n + ", 0) of no WORK", x -> x.ends(n, 0), -5);
        }
        for (int o : NO_OUTCOMES) refused(SOME, "ends(0, " + o + ")", x -> x.ends(0, o), -5);
        refused(both(SOME, x -> x.work(1)), "ends(0, 0) of one that has begun", x -> x.ends(0, 0), -5);
        refused(both(with("do 1 from 0 to 5"), x -> x.work(1)), "ends(0, 0) of one that is done", x -> x.ends(0, 0), -5);
        refused(SOME, "ends(1, 0) of one that isn't ASKED", x -> x.ends(1, 0), -5);
        refused(both(SOME, idle(12)), "ends(0, 0) of a LOST one", x -> x.ends(0, 0), -5);
        Making over = both(with("do 1 from 0 to 11 if 0=1"), idle(12));
        refused(over, "ends(0, 1) when all is over", x -> x.ends(0, 1), -5);
    }

    private static void must() {
        of(25, "MUST (bits)");
        int[] due = {0, 1, 1, -5, 0, -5, -5, -5};
        for (int o = 0; o < 8; o++) {
            int outcome = o;
            if (due[o] >= 0) quiet(SOME, "must(" + o + ")", x -> x.must(outcome), due[o]);
        }
        quiet(NEW, "must(0) without PROMISES", x -> x.must(0), 0);
        Making last = both(with("free from 0 to 0", "free from 0 to 0", "free from 0 to 0", "do 1 from 5 to 5", "do 1 from 6 to 6",
            "do 1 from 7 to 7", "do 1 from 8 to 8", "do 1 from 9 to 9", "do 1 from 1 to 1"), idle(1));
        quiet(last, "must(0) of the last of nine", x -> x.must(0), 256);
        quiet(idle(11), "must(0) in NOW 11", x -> x.must(0), 0);
        of(25, "-5: no KEEPING, OUTCOME, NOW is 12");
        for (int o : new int[] {3, 5, 6, 7}) {
            Making no = o == 5 ? both(SOME, x -> x.hands(2, 0)) : SOME;
            refused(no, "must(" + o + ") without a KEEPING", x -> x.must(o), -5);
        }
        for (int o : NO_OUTCOMES) refused(SOME, "must(" + o + ")", x -> x.must(o), -5);
        refused(idle(12), "must(0) when all is over", x -> x.must(0), -5);
        refused(both(SOME, idle(12)), "must(0) of a LOST one when all is over", x -> x.must(0), -5);
    }

    private static void spare() {
        of(26, "SPARE (may be below 0)");
        for (int o = 0; o < 8; o++) {
            int outcome = o;
            quiet(SOME, "spare(" + o + ")", x -> x.spare(outcome), (o & 1) != 0 ? 9 : 10);
        }
        Making none = both(with("do 3 from 0 to 11", "do 3 from 0 to 11"), x -> {
            for (int h = 0; h < 12; h++) x.hands(h, 0);
        });
        quiet(none, "spare(0) without HANDS", x -> x.spare(0), -6);
        quiet(both(none, x -> x.hands(11, 2)), "spare(0) with two HANDS", x -> x.spare(0), -4);
        Making six = both(none, with("do 1 from 0 to 11", "again 4 from 0 to 11", "do 3 from 0 to 11", "do 3 from 0 to 11"));
        quiet(six, "spare(0) of -16", x -> x.spare(0), -16);
        of(26, "-1000: no such OUTCOME (counted as -6)");
        for (int o : NO_OUTCOMES) {
            refused(SOME, "spare(" + o + ")", x -> x.spare(o), -1000);
            refused(idle(12), "spare(" + o + ") when all is over", x -> x.spare(o), -1000);
        }
    }

    private static void doomed() {
        of(27, "Whether a WORK is DOOMED: 1, 0");
        for (int o = 0; o < 8; o++) {
            int outcome = o;
            quiet(SOME, "doomed(0, " + o + ") alone", x -> x.doomed(0, outcome), 0);
            Making none = both(SOME, x -> x.hands(1, 0));
            quiet(none, "doomed(1, " + o + ") without HANDS", x -> x.doomed(1, outcome), o & 1);
            quiet(both(SOME, idle(12)), "doomed(0, " + o + ") of a LOST one", x -> x.doomed(0, outcome), 1);
        }
        of(27, "-1 no such WORK");
        for (int n : new int[] {LEAST, -1, 2, 3, 4, 9, MOST}) {
            refused(SOME, "doomed(" + n + ", 0) of no WORK", x -> x.doomed(n, 0), -1);
            refused(SOME, "doomed(" + n + ", 8) of no WORK", x -> x.doomed(n, 8), -1);
        }
        of(27, "-6 OUTCOME");
        for (int o : NO_OUTCOMES) refused(SOME, "doomed(1, " + o + ")", x -> x.doomed(1, o), -6);
    }

    // ---- what can still be given

    private static void giveQuiet(Making first, String text, int want) {
        of(28, "Whether there would be a plan BEARING ALL with the PROMISE by the ROW in SHELF s, too: 1, 0");
        quiet(both(first, text(text)), "give(0) of " + text, x -> x.give(0), want);
    }

    private static void give() {
        String[] others = {"do 1 from 1 to 1", "do 1 from 2 to 2"};
        Making two = with(others);
        giveQuiet(two, "do 1 from 0 to 0", 1);
        giveQuiet(two, "do 1 from 1 to 2", 0);
        giveQuiet(two, "do 1 from 1 to 3", 1);
        giveQuiet(two, "do 2 from 0 to 3", 1);
        giveQuiet(two, "do 3 from 0 to 3", 0);
        giveQuiet(two, "whole 2 from 0 to 4", 1);
        giveQuiet(two, "whole 2 from 0 to 3", 0);
        giveQuiet(two, "again 2 from 0 to 3", 1);
        giveQuiet(two, "again 2 from 1 to 3", 0);
        giveQuiet(two, "free from 0 to 0", 1);
        giveQuiet(two, "free from 0 to 1", 0);
        giveQuiet(two, "free from 3 to 11", 1);
        giveQuiet(two, "never 0 from 0 to 11", 1);
        giveQuiet(with("do 1 from 1 to 1 with 3"), "never 3 from 1 to 1", 0);
        giveQuiet(two, "do 1 from 0 to 3 after 1", 1);
        giveQuiet(two, "do 1 from 0 to 2 after 1", 0);
        giveQuiet(both(two, x -> x.swap(0, 1)), "free from 11 to 11", 0);
        giveQuiet(both(two, idle(2)), "free from 11 to 11", 0);
        Making forks = both(two, x -> x.known(0, 1), x -> x.known(1, 2));
        giveQuiet(forks, "do 1 from 0 to 1 if 0=1", 0);
        giveQuiet(forks, "do 1 from 0 to 3 if 1=1", 1);
        giveQuiet(forks, "do 1 from 0 to 1 if 2=1", 1);
        giveQuiet(both(forks, x -> x.turn(2, 1)), "do 1 from 0 to 0 if 2=1", 1);
        giveQuiet(both(forks, x -> x.turn(2, 1)), "do 1 from 1 to 1 if 2=1", 0);
        giveQuiet(NEW, "do 1 from 11 to 11", 1);
        giveQuiet(idle(11), "do 1 from 11 to 11", 1);
        Making eight = with("do 1 from 0 to 0", "do 1 from 1 to 1", "do 1 from 2 to 2", "do 1 from 3 to 3", "do 1 from 4 to 4",
            "free from 5 to 5", "free from 5 to 5", "free from 5 to 5");
        giveQuiet(eight, "do 1 from 0 to 6", 1);
        giveQuiet(eight, "do 1 from 0 to 5", 0);
    }

    private static void readingRefused(String name, Reading reading) {
        Making some = both(with("do 1 from 0 to 0"), x -> x.put(1, 0), text("free from 0 to 0 owe 1x"));
        for (int s : new int[] {LEAST, -1, 8, MOST}) refused(some, name + "(" + s + ")", x -> reading.of(x, s), -1);
        refused(some, name + "(1) of a PROMISE", x -> reading.of(x, 1), -2);
        refused(some, name + "(2) of NOTHING", x -> reading.of(x, 2), -3);
        refused(some, name + "(0) of a FAULT", x -> reading.of(x, 0), -6, 22);
        refused(both(some, x -> x.row(0, 0, 0)), name + "(0) of an empty ROW", x -> reading.of(x, 0), -6, 0);
        refused(both(idle(1), text("do 1 from 0 to 11")), name + "(0) with p before NOW", x -> reading.of(x, 0), -6, -1);
        refused(both(idle(12), text("do 1 from 11 to 11")), name + "(0) when all is over", x -> reading.of(x, 0), -6, -1);
    }

    private static final Making FULL = with("do 1 from 0 to 0", "do 1 from 1 to 1", "do 1 from 2 to 2", "do 1 from 3 to 3",
        "do 1 from 4 to 4", "do 1 from 5 to 5", "free from 6 to 6", "never 0 from 6 to 6", "free from 6 to 6");

    private static void giveRefused() {
        of(28, "As promise()");
        readingRefused("give", (x, s) -> x.give(s));
        for (String text : new String[] {"do 1 from 8 to 8", "free from 8 to 8"}) {
            refused(both(FULL, text(text)), "give(0) without ROOM", x -> x.give(0), -7, -1);
            refused(both(FULL, text(text), idle(9)), "give(0) without ROOM and before NOW", x -> x.give(0), -6, -1);
        }
        refused(both(FULL, text("never 4 from 8 to 8")), "give(0) without ROOM of a FAULT", x -> x.give(0), -6, 6);
    }

    private static void manyQuiet(Making first, String text, int want) {
        of(29, "How many such ones, one after the other, as far as there is room");
        quiet(both(first, text(text)), "many(0) of " + text, x -> x.many(0), want);
    }

    private static void many() {
        manyQuiet(NEW, "do 1 from 0 to 11", 6);
        manyQuiet(NEW, "do 1 from 0 to 5", 6);
        manyQuiet(NEW, "do 1 from 0 to 4", 5);
        manyQuiet(NEW, "do 1 from 0 to 0", 1);
        manyQuiet(x -> x.hands(0, 0), "do 1 from 0 to 0", 0);
        manyQuiet(x -> x.hands(0, 2), "do 1 from 0 to 0", 2);
        manyQuiet(x -> x.hands(0, 2), "do 1 from 0 to 0 with 2", 1);
        manyQuiet(NEW, "do 3 from 0 to 11", 4);
        manyQuiet(NEW, "free from 0 to 11", 3);
        manyQuiet(NEW, "never 3 from 0 to 11", 3);
        manyQuiet(with("do 1 from 0 to 0"), "free from 0 to 0", 0);
        manyQuiet(with("do 1 from 0 to 0"), "free from 1 to 11", 3);
        manyQuiet(with("do 1 from 0 to 0"), "do 1 from 0 to 11", 5);
        manyQuiet(with("do 1 from 0 to 0"), "do 1 from 0 to 2 after 0", 2);
        manyQuiet(both(with("do 1 from 0 to 0"), idle(1)), "do 1 from 3 to 11", 0);
        manyQuiet(idle(9), "do 1 from 9 to 11", 3);
        manyQuiet(x -> x.known(1, 3), "do 1 from 0 to 5 if 1=1", 3);
        manyQuiet(NEW, "do 1 from 0 to 5 if 1=1", 6);
        manyQuiet(NEW, "do 1 from 0 to 1 if 1=0", 2);
        Making five = with("do 1 from 0 to 0", "do 1 from 1 to 1", "do 1 from 2 to 2", "do 1 from 3 to 3", "do 1 from 4 to 4",
            "free from 6 to 6", "never 0 from 6 to 6");
        manyQuiet(five, "do 1 from 0 to 11", 1);
        manyQuiet(five, "free from 6 to 6", 1);
        of(29, "As promise(), but -7");
        quiet(both(FULL, text("do 1 from 8 to 8")), "many(0) of WORKS without ROOM", x -> x.many(0), 0);
        quiet(both(FULL, text("free from 8 to 8")), "many(0) of FREE ones without ROOM", x -> x.many(0), 0);
    }

    private static void manyRefused() {
        of(29, "As promise(), but -7");
        readingRefused("many", (x, s) -> x.many(s));
        refused(both(FULL, text("never 4 from 8 to 8")), "many(0) without ROOM of a FAULT", x -> x.many(0), -6, 6);
        refused(both(FULL, text("do 1 from 8 to 8"), idle(9)), "many(0) without ROOM before NOW", x -> x.many(0), -6, -1);
    }

    // ---- rings

    private static final Making NINE = with("free from 0 to 0", "do 1 from 0 to 11", "do 1 from 0 to 11 after 1", "never 0 from 0 to 0",
        "do 1 from 0 to 11 after 2", "do 1 from 0 to 11", "do 1 from 0 to 11", "free from 0 to 0", "do 1 from 0 to 11 after 6");

    private static void ring() {
        of(30, "RING (bits)");
        quiet(NEW, "ring() without PROMISES", x -> x.ring(), 0);
        quiet(NINE, "ring() as they were read", x -> x.ring(), 0);
        Making three = both(NINE, x -> x.swap(1, 4));
        quiet(three, "ring() of three", x -> x.ring(), 2 + 4 + 16);
        Making more = both(three, x -> x.swap(6, 8));
        quiet(more, "ring() of three and two", x -> x.ring(), 2 + 4 + 16 + 64 + 256);
        quiet(both(more, x -> x.swap(5, 8)), "ring() with one that leads to it", x -> x.ring(), 2 + 4 + 16 + 64 + 256);
        quiet(both(more, x -> x.swap(2, 8)), "ring() of which one leads elsewhere", x -> x.ring(), 64 + 256);
        quiet(both(more, idle(12)), "ring() when all is over", x -> x.ring(), 2 + 4 + 16 + 64 + 256);
    }

    private static void opening() {
        of(31, "OPENING");
        quiet(NEW, "opening() without PROMISES", x -> x.opening(), 0);
        quiet(NINE, "opening() as they were read", x -> x.opening(), 0);
        Making three = both(NINE, x -> x.swap(1, 4));
        quiet(three, "opening() of three", x -> x.opening(), 1);
        Making more = both(three, x -> x.swap(6, 8));
        quiet(more, "opening() of three and two", x -> x.opening(), 2);
        quiet(both(more, x -> x.swap(5, 8)), "opening() with one that leads to it", x -> x.opening(), 2);
        quiet(both(more, x -> x.swap(2, -1)), "opening() of two", x -> x.opening(), 1);
        quiet(both(more, x -> x.swap(2, -1), x -> x.swap(8, -1)), "opening() when both are opened", x -> x.opening(), 0);
    }
}
