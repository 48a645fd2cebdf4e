import java.io.IOException;

/** The boundary cases of promises 9 to 15: promises from rows, what is told of them, what is set. */
public final class PromisesBoundaryTest extends Bounds {
    private static final String WORK = "do 1 from 0 to 11";
    private static final String[] HEADS = {"do 1 from 0 to 11", "whole 1 from 0 to 11", "again 6 from 0 to 11",
        "once 1 from 0 to 11 if 0=0"};
    private static final String[] OTHERS = {"never 0 from 0 to 11", "free from 0 to 11"};

    public static void main(String[] args) throws IOException {
        numbers();
        readingRefused();
        tooLate();
        full();
        faults();
        told();
        toldRefused();
        hands();
        known();
        turns();
        turnsRefused();
        swaps();
        swapsRefused();
        end("PromisesBoundaryTest", 9, 15);
    }

    /** Shelf 0 holds a row with this text. */
    private static Making text(String text) {
        return x -> Texts.write(x, 0, 0, text);
    }

    private static void numbers() {
        of(9, "A PROMISE by the ROW in SHELF s: its number");
        KeptPromises x = made(NEW);
        for (int n = 0; n < 6; n++) due("promise " + n, Texts.promise(x, HEADS[n % 4]), n);
        for (int n = 6; n < 9; n++) due("promise " + n, Texts.promise(x, OTHERS[n % 2]), n);
        due("status(0)", x.status(0), 9);
        for (int s : new int[] {0, 7}) {
            for (int sort = 0; sort < 4; sort++) {
                KeptPromises y = made(NEW);
                Texts.write(y, s, sort, WORK);
                due("promise(" + s + ") of SORT " + sort, y.promise(s), 0);
                due("promise(" + s + ") a second time", y.promise(s), 1);
                due("holds(" + s + ") as ahead", y.holds(s), 100 + sort);
            }
        }
    }

    private static void readingRefused() {
        Making some = both(with(WORK), text("free from 0 to"), x -> {
            x.promise(0);
            x.put(1, 0);
        });
        of(9, "-1");
        for (int s : new int[] {LEAST, -1, 8, MOST}) refused(some, "promise(" + s + ")", x -> x.promise(s), -1);
        of(9, "-2");
        refused(some, "promise(1) of a PROMISE", x -> x.promise(1), -2);
        of(9, "-3");
        refused(some, "promise(2) of NOTHING", x -> x.promise(2), -3);
        of(9, "-6 a FAULT");
        refused(some, "promise(0)", x -> x.promise(0), -6, 14);
        refused(both(some, x -> x.row(0, 3, 0)), "promise(0) of an empty ROW", x -> x.promise(0), -6, 0);
        refused(both(some, x -> x.row(0, 0, 60)), "promise(0) of a ROW of zeroes", x -> x.promise(0), -6, 0);
    }

    private static void tooLate() {
        of(9, "-6 a FAULT, p is before NOW");
        for (int now = 1; now <= 11; now++) {
            Making late = both(idle(now), text("free from " + (now - 1) + " to 11"));
            refused(late, "promise(0) of an HOUR before NOW " + now, x -> x.promise(0), -6, -1);
            KeptPromises x = made(idle(now));
            due("promise from NOW " + now + " on", Texts.promise(x, "do 1 from " + now + " to " + now), 0);
        }
        Making over = both(idle(12), text("do 1 from 11 to 11"));
        refused(over, "promise(0) when all is over", x -> x.promise(0), -6, -1);
        Making both = both(idle(3), text("do 1 from 0 to 0 x"));
        refused(both, "promise(0) of a FAULT and before NOW", x -> x.promise(0), -6, 17);
    }

    private static void full() {
        of(9, "-7 also WORKS, or the others");
        for (String head : HEADS) {
            Making works = with(head, HEADS[0], HEADS[1], HEADS[2], HEADS[3]);
            KeptPromises x = made(works);
            due("a sixth WORK: " + head, Texts.promise(x, head), 5);
            Making six = both(works, with(head), text(head));
            refused(six, "a seventh WORK: " + head, y -> y.promise(0), -7, -1);
            fine(six, OTHERS[0]);
            fine(six, OTHERS[1]);
        }
        for (String other : OTHERS) {
            KeptPromises x = made(OTHERS);
            due("a third one: " + other, Texts.promise(x, other), 2);
            Making three = both(with(OTHERS), with(other), text(other));
            refused(three, "a fourth one: " + other, y -> y.promise(0), -7, -1);
            for (String head : HEADS) fine(three, head);
        }
        Making nine = both(with(WORK, OTHERS[0], WORK, OTHERS[1], WORK, OTHERS[0]), with(WORK, WORK, WORK));
        refused(both(nine, text(WORK)), "a tenth PROMISE", y -> y.promise(0), -7, -1);
        refused(both(nine, text(OTHERS[1])), "a tenth PROMISE", y -> y.promise(0), -7, -1);
        of(9, "-6 a FAULT, p is before NOW");
        refused(both(nine, text("do 1 from 0 to 12")), "a FAULT when all is full", y -> y.promise(0), -6, 15);
        refused(both(nine, text(WORK), idle(1)), "p before NOW when all is full", y -> y.promise(0), -6, -1);
    }

    private static void faults() {
        of(10, "NONE: it was a PROMISE, or none yet");
        due("fault() of a new object", made(NEW).fault(), -1);
        quiet(NEW, "fault()", x -> x.fault(), -1);
        Making faulty = both(text("do 1 from 0 to 1 x"), x -> x.promise(0));
        quiet(faulty, "fault()", x -> x.fault(), 17);
        String[] calls = {"promise", "give", "many"};
        for (int k = 0; k < 3; k++) {
            int call = k;
            KeptPromises x = made(faulty);
            Texts.write(x, 0, 0, WORK);
            due(calls[k] + "(0)", read(x, call, 0), k == 0 ? 0 : k == 1 ? 1 : 6);
            due("fault() after a PROMISE by " + calls[k], x.fault(), -1);
            of(10, "The FAULT of the latest promise(), give() or many() that came to a ROW");
            KeptPromises y = made(NEW);
            Texts.write(y, 0, 0, "free from 0 to 5 owe 100");
            due(calls[k] + "(0)", read(y, call, 0), -6);
            due("fault() after a FAULT by " + calls[k], y.fault(), 23);
            y.put(1, -1);
            due(calls[k] + "(8)", read(y, call, 8), -1);
            due("fault() after no SHELF", y.fault(), 23);
            due(calls[k] + "(1)", read(y, call, 1), -3);
            due("fault() after NOTHING", y.fault(), 23);
            Texts.promise(y, WORK);
            Texts.write(y, 0, 0, "x");
            due("promise(0)", y.promise(0), -6);
            y.put(1, 0);
            due(calls[k] + "(1)", read(y, call, 1), -2);
            due("fault() after a SHELF with a PROMISE", y.fault(), 0);
            of(10, "NONE: it was a PROMISE, or none yet");
        }
        KeptPromises x = made(both(with(WORK, WORK, WORK, WORK, WORK, WORK), faulty, text(WORK)));
        due("promise(0) without ROOM", x.promise(0), -7);
        due("fault() after a PROMISE without ROOM", x.fault(), -1);
        x = made(both(idle(1), faulty, text(WORK)));
        due("promise(0) before NOW", x.promise(0), -6);
        due("fault() after a PROMISE before NOW", x.fault(), -1);
        of(10, "The FAULT of the latest promise(), give() or many() that came to a ROW");
        String longest = "whole 3 from 00 to 11 with 3 after 0 if 2=1 owe 99 for 5";
        fine(with(WORK), longest);
        fault(with(WORK), longest + "    ", longest.length());
    }

    private static int read(KeptPromises x, int call, int s) {
        return call == 0 ? x.promise(s) : call == 1 ? x.give(s) : x.many(s);
    }

    private static void told() {
        of(11, "Of a PROMISE: 0 KIND, 1 p, 2 q, 3 THING (NONE), 4 after (NONE), 5 FORK (NONE), 6 how that is to turn out "
            + "(0 without), 7 OWED (as mended), 8 for whom, 9 LENGTH (0 of NEVER, FREE), 10 LEFT (likewise), "
            + "11 whether it is LOST");
        String[] texts = {"do 3 from 0 to 11 with 0", "whole 1 from 11 to 11 after 0 if 0=1 owe 99 for 5",
            "again 5 from 0 to 10 with 3 owe 1", "once 2 from 1 to 3 if 2=0", "never 3 from 0 to 0 if 1=1 owe 5",
            "never 0 from 2 to 4 for 1", "free from 5 to 7 owe 12 for 2"};
        int[][] told = {{1, 0, 11, 0, -1, -1, 0, 0, 0, 3, 3, 0}, {2, 11, 11, -1, 0, 0, 1, 99, 5, 1, 1, 0},
            {3, 0, 10, 3, -1, -1, 0, 1, 0, 3, 3, 0}, {4, 1, 3, -1, -1, 2, 0, 0, 0, 2, 2, 0},
            {5, 0, 0, 3, -1, 1, 1, 5, 0, 0, 0, 0}, {5, 2, 4, 0, -1, -1, 0, 0, 1, 0, 0, 0},
            {6, 5, 7, -1, -1, -1, 0, 12, 2, 0, 0, 0}};
        Making all = with(texts);
        for (int n = 0; n < texts.length; n++) {
            for (int what = 0; what < 12; what++) {
                int m = n;
                int w = what;
                due("promiseOf(" + n + ", " + what + ")", made(all).promiseOf(m, w), told[n][what]);
            }
        }
        KeptPromises x = made("do 1 from 0 to 0 owe 99", "do 1 from 0 to 0", "whole 3 from 0 to 5");
        x.work(2);
        int[][] later = {{7, 99}, {10, 1}, {11, 1}};
        for (int[] l : later) due("promiseOf(0, " + l[0] + ") of a LOST one", x.promiseOf(0, l[0]), l[1]);
        due("promiseOf(1, 10) of one that is done", x.promiseOf(1, 10), 0);
        due("promiseOf(1, 9) of one that is done", x.promiseOf(1, 9), 1);
        due("promiseOf(1, 11) of one that is done", x.promiseOf(1, 11), 0);
        x.mend(0, 0);
        due("promiseOf(0, 7) as mended", x.promiseOf(0, 7), 49);
        x.work(4);
        due("promiseOf(2, 10) of one that has begun", x.promiseOf(2, 10), 2);
    }

    private static void toldRefused() {
        of(11, "-5: no such one, another what");
        Making two = with(WORK, OTHERS[1]);
        for (int n : new int[] {LEAST, -1, 2, 9, MOST}) {
            refused(two, "promiseOf(" + n + ", 0)", x -> x.promiseOf(n, 0), -5);
            refused(two, "promiseOf(" + n + ", 12)", x -> x.promiseOf(n, 12), -5);
        }
        for (int what : new int[] {LEAST, -1, 12, MOST}) {
            refused(two, "promiseOf(0, " + what + ")", x -> x.promiseOf(0, what), -5);
            refused(two, "promiseOf(1, " + what + ")", x -> x.promiseOf(1, what), -5);
        }
        refused(NEW, "promiseOf(0, 0) without PROMISES", x -> x.promiseOf(0, 0), -5);
        quiet(two, "promiseOf(1, 11)", x -> x.promiseOf(1, 11), 0);
    }

    private static void hands() {
        of(12, "HANDS of an HOUR become n: what they were");
        KeptPromises x = made(NEW);
        for (int h = 0; h < 12; h++) {
            due("hands(" + h + ", 0) at first", x.hands(h, 0), 1);
            due("hands(" + h + ", 2)", x.hands(h, 2), 0);
            due("hands(" + h + ", 1)", x.hands(h, 1), 2);
            due("hands(" + h + ", 1)", x.hands(h, 1), 1);
        }
        x = made(idle(12));
        due("hands(0, 2) when all is over", x.hands(0, 2), 1);
        due("hands(0, 1)", x.hands(0, 1), 2);
        Making some = y -> {
            y.hands(0, 2);
            y.hands(11, 0);
        };
        of(12, "-1");
        for (int h : new int[] {LEAST, -1, 12, MOST}) {
            refused(some, "hands(" + h + ", 1)", y -> y.hands(h, 1), -1);
            refused(some, "hands(" + h + ", 3)", y -> y.hands(h, 3), -1);
        }
        of(12, "-6");
        for (int n : new int[] {LEAST, -1, 3, MOST}) {
            refused(some, "hands(0, " + n + ")", y -> y.hands(0, n), -6);
            refused(some, "hands(11, " + n + ")", y -> y.hands(11, n), -6);
        }
    }

    private static void known() {
        of(13, "A FORK is KNOWN from an HOUR on: from which it was");
        KeptPromises x = made(NEW);
        for (int f = 0; f < 3; f++) {
            due("known(" + f + ", 11) at first", x.known(f, 11), 0);
            due("known(" + f + ", 0)", x.known(f, 0), 11);
            due("known(" + f + ", " + (f + 1) + ")", x.known(f, f + 1), 0);
        }
        for (int f = 0; f < 3; f++) due("known(" + f + ", 0)", x.known(f, 0), f + 1);
        Making some = y -> {
            y.known(0, 4);
            y.known(2, 11);
        };
        of(13, "-1");
        for (int f : new int[] {LEAST, -1, 3, MOST}) refused(some, "known(" + f + ", 0)", y -> y.known(f, 0), -1);
        for (int h : new int[] {LEAST, -1, 12, MOST}) {
            refused(some, "known(0, " + h + ")", y -> y.known(0, h), -1);
            refused(some, "known(2, " + h + ")", y -> y.known(2, h), -1);
            refused(some, "known(3, " + h + ")", y -> y.known(3, h), -1);
        }
    }

    private static void turns() {
        of(14, "How a FORK turns out: how it did");
        KeptPromises x = made(NEW);
        for (int f = 0; f < 3; f++) {
            due("turn(" + f + ", 0) at first", x.turn(f, 0), 0);
            due("turn(" + f + ", 1)", x.turn(f, 1), 0);
            due("turn(" + f + ", 1)", x.turn(f, 1), 1);
            due("status(4)", x.status(4), (2 << f) - 1);
        }
        due("turn(1, 0)", x.turn(1, 0), 1);
        due("status(4)", x.status(4), 5);
        for (int now = 0; now <= 11; now++) {
            KeptPromises y = made(both(z -> z.known(1, 11), idle(now)));
            y.known(1, now);
            due("turn(1, 1) KNOWN from NOW " + now + " on", y.turn(1, 1), 0);
            Texts.promise(y, "do 1 from " + now + " to 11 if 1=0");
            due("turn(1, 0) with p in NOW " + now, y.turn(1, 0), 1);
        }
    }

    private static void turnsRefused() {
        Making later = x -> {
            x.known(0, 11);
            x.turn(0, 1);
        };
        of(14, "-1");
        for (int f : new int[] {LEAST, -1, 3, MOST}) {
            refused(later, "turn(" + f + ", 0)", x -> x.turn(f, 0), -1);
            refused(later, "turn(" + f + ", 2)", x -> x.turn(f, 2), -1);
        }
        of(14, "-6 v, it is KNOWN from before NOW on, p of a PROMISE that hangs on it is before NOW");
        for (int v : new int[] {LEAST, -1, 2, MOST}) refused(later, "turn(0, " + v + ")", x -> x.turn(0, v), -6);
        for (int now = 1; now <= 12; now++) {
            int before = now - 1;
            Making passed = both(x -> x.known(2, before), idle(now));
            for (int v = 0; v < 2; v++) {
                int w = v;
                refused(passed, "turn(2, " + v + ") KNOWN from before NOW " + now, x -> x.turn(2, w), -6);
            }
        }
        String[] hanging = {"do 1 from 1 to 9 if 0=0", "whole 2 from 1 to 9 if 0=1", "again 4 from 1 to 9 if 0=0",
            "once 1 from 1 to 1 if 0=0", "never 0 from 1 to 1 if 0=1", "free from 1 to 9 if 0=0"};
        for (String text : hanging) {
            Making before = both(later, with(text), idle(2));
            refused(before, "turn(0, 0) with p before NOW: " + text, x -> x.turn(0, 0), -6);
            KeptPromises other = made(both(before, x -> x.known(1, 2)));
            due("turn(1, 1) that none hangs on", other.turn(1, 1), 0);
            KeptPromises intime = made(both(later, with(text), idle(1)));
            due("turn(0, 0) with p in NOW: " + text, intime.turn(0, 0), 1);
        }
    }

    private static final Making THREE = with(WORK, "again 6 from 0 to 11 after 0", "free from 0 to 0", "never 0 from 0 to 0",
        "once 1 from 0 to 1 if 0=1");

    private static void swaps() {
        of(15, "A WORK is after another one, or none (NONE): after which it was");
        of(15, "(It answers NONE as -1; a REFUSAL -1 as -11, -6 as -16.)");
        quiet(THREE, "swap(0, NONE) of one that is after none", x -> x.swap(0, -1), -1);
        quiet(THREE, "swap(1, 0) as it is", x -> x.swap(1, 0), 0);
        KeptPromises x = made(THREE);
        due("swap(0, 4) after a later one", x.swap(0, 4), -1);
        due("promiseOf(0, 4)", x.promiseOf(0, 4), 4);
        due("swap(0, NONE)", x.swap(0, KeptPromises.NONE), 4);
        due("promiseOf(0, 4)", x.promiseOf(0, 4), -1);
        due("swap(4, 1)", x.swap(4, 1), -1);
        due("swap(1, 4) in a RING", x.swap(1, 4), 0);
        due("promiseOf(1, 4)", x.promiseOf(1, 4), 4);
        due("no REFUSALS", x.status(11) + x.status(16), 0);
    }

    private static void swapsRefused() {
        of(15, "-1 either, no WORK");
        for (int n : new int[] {LEAST, -2, 5, 9, MOST}) {
            refused(THREE, "swap(0, " + n + ")", x -> x.swap(0, n), -11);
            refused(THREE, "swap(" + n + ", 0)", x -> x.swap(n, 0), -11);
            refused(THREE, "swap(" + n + ", " + n + ")", x -> x.swap(n, n), -11);
        }
        refused(THREE, "swap(-1, 0)", x -> x.swap(-1, 0), -11);
        refused(THREE, "swap(-1, -1)", x -> x.swap(-1, -1), -11);
        for (int n : new int[] {2, 3}) {
            refused(THREE, "swap(" + n + ", 0) of no WORK", x -> x.swap(n, 0), -11);
            refused(THREE, "swap(" + n + ", NONE) of no WORK", x -> x.swap(n, -1), -11);
            refused(THREE, "swap(" + n + ", " + n + ") of no WORK", x -> x.swap(n, n), -11);
            refused(THREE, "swap(0, " + n + ") after no WORK", x -> x.swap(0, n), -11);
        }
        of(15, "-6 they are one");
        for (int n : new int[] {0, 1, 4}) refused(THREE, "swap(" + n + ", " + n + ")", x -> x.swap(n, n), -16);
    }
}
