import java.io.IOException;

/** The boundary cases of the Terms, part 2: which works are open, what may be done, what gets lost, keepings. */
public final class TermsOfHoursBoundaryTest extends Bounds {
    private static final String OPEN = "A WORK is OPEN, if p is no later and q no earlier than h, it is ASKED, its FORK "
        + "(if it has one) is KNOWN from h or earlier on, LEFT is above 0, it isn't LOST, the WORK that it is after (if any) "
        + "had LEFT 0 and wasn't LOST as h began";

    public static void main(String[] args) throws IOException {
        asked();
        openFromTo();
        openIfAskedAndKnown();
        openWithLeft();
        openAfter();
        openAgain();
        each();
        handsAndThings();
        free();
        never();
        left();
        lostAtItsEnd();
        lostWhole();
        lostAgain();
        keepings();
        keepingsOfPairs();
        keepingsOfThings();
        keepingsOfTheLastHours();
        outside();
        theFirst();
        bearingAll();
        bearingUnknown();
        end("TermsOfHoursBoundaryTest", -2, -2);
    }

    /** What judge tells of a row with one set, in that hour. */
    private static int judged(Making first, int outcome, int hour, int set) {
        int[] sets = new int[hour + 1];
        sets[hour] = set;
        return judgedRow(first, outcome, sets);
    }

    private static int judgedRow(Making first, int outcome, int... sets) {
        KeptPromises x = made(first);
        ints(x, 0, sets);
        return x.judge(0, outcome);
    }

    private static int[] sets(int... sets) {
        return sets;
    }

    private static void asked() {
        of(-2, "By an OUTCOME, in an HOUR h: a PROMISE is ASKED, if it has no if or that FORK turns out so");
        for (int f = 0; f < 3; f++) {
            for (int v = 0; v < 2; v++) {
                KeptPromises x = made("do 1 from 0 to 0", "do 1 from 0 to 0 if " + f + "=" + v);
                x.row(0, 0, 0);
                for (int o = 0; o < 8; o++) due("lost(0, " + o + ")", x.lost(0, o), (o >> f & 1) == v ? 3 : 1);
            }
        }
    }

    private static void openFromTo() {
        of(-2, OPEN);
        String[] heads = {"do 1", "whole 1", "again 6", "once 1"};
        int[][] ends = {{0, 0}, {0, 5}, {3, 6}, {6, 11}, {11, 11}};
        for (int k = 0; k < 4; k++) {
            for (int[] e : ends) {
                String text = heads[k] + " from " + e[0] + " to " + e[1] + (k == 3 ? " if 0=0" : "");
                for (int h = 0; h < 12; h++) {
                    boolean open = h >= e[0] && h <= e[1];
                    due("judge in HOUR " + h + " of " + text, judged(with(text), 0, h, 1), open ? -1 : 10 * h + 1);
                    if (h <= e[1]) {
                        due("work(1) in HOUR " + h + " of " + text, made(both(with(text), idle(h))).work(1), open ? 0 : -6);
                    }
                }
            }
        }
    }

    private static void openIfAskedAndKnown() {
        of(-2, OPEN);
        for (int f = 0; f < 3; f++) {
            for (int from = 0; from < 12; from++) {
                int g = f;
                int k = from;
                Making work = both(with("do 1 from 0 to 11 if " + f + "=1"), x -> x.known(g, k), x -> x.turn(g, 1));
                for (int h = 0; h < 12; h++) {
                    boolean known = from <= h;
                    String text = " in HOUR " + h + " of one KNOWN from " + from + " on";
                    due("judge" + text, judged(work, 1 << f, h, 1), known ? -1 : 10 * h + 1);
                    due("judge, not ASKED," + text, judged(work, 7 & ~(1 << f), h, 1), 10 * h + 1);
                    due("work(1)" + text, made(both(work, idle(h))).work(1), known ? 0 : -6);
                }
            }
        }
        Making none = both(with("do 1 from 0 to 11"), x -> x.known(0, 11), x -> x.known(1, 11), x -> x.known(2, 11));
        due("judge of one without a FORK", judged(none, 0, 0, 1), -1);
        Making other = both(with("do 1 from 0 to 11 if 1=0"), x -> x.known(0, 11), x -> x.known(2, 11));
        due("judge of one with another FORK", judged(other, 5, 0, 1), -1);
    }

    private static void openWithLeft() {
        of(-2, OPEN);
        due("judge, done twice", judgedRow(with("do 1 from 0 to 5"), 0, 1, 1), 11);
        due("judge, done a third time", judgedRow(with("do 2 from 0 to 5"), 0, 1, 0, 1, 0, 1), 41);
        due("judge, done three times", judgedRow(with("do 3 from 0 to 5"), 0, 1, 1, 0, 1), -1);
        due("judge, done four times", judgedRow(with("whole 3 from 0 to 5"), 0, 1, 1, 1, 1), 31);
        due("judge of a LOST one", judgedRow(with("whole 2 from 0 to 5"), 0, 1, 0, 1), 21);
        due("judge of a LOST one", judgedRow(with("again 2 from 0 to 5"), 0, 0, 0, 1), 21);
        KeptPromises x = made("whole 2 from 0 to 5", "do 1 from 0 to 5");
        due("work(1)", x.work(1), 0);
        due("work(2), by which the WHOLE one gets LOST", x.work(2), 1);
        due("work(1) of a LOST one", x.work(1), -6);
        due("work(2) of one that is done", x.work(2), -6);
    }

    private static void openAfter() {
        of(-2, OPEN);
        Making two = both(with("do 1 from 0 to 5", "do 1 from 0 to 5 after 0"), x -> x.hands(0, 2), x -> x.hands(1, 2));
        due("judge, in the HOUR of the one ahead", judgedRow(two, 0, 3), 1);
        due("judge, without the one ahead", judgedRow(two, 0, 2), 1);
        due("judge, in the HOUR after", judgedRow(two, 0, 1, 2), -1);
        due("judge, in both", judgedRow(two, 0, 0, 3), 11);
        Making more = with("do 2 from 0 to 5", "do 1 from 0 to 5 after 0");
        due("judge with LEFT 1 of the one ahead", judgedRow(more, 0, 1, 2), 11);
        due("judge with LEFT 0 of the one ahead", judgedRow(more, 0, 1, 1, 2), -1);
        Making lost = with("whole 2 from 0 to 5", "do 1 from 0 to 5 after 0");
        due("judge, the one ahead is LOST", judgedRow(lost, 0, 1, 0, 2), 21);
        Making unasked = with("do 1 from 0 to 5 if 0=1", "do 1 from 0 to 5 after 0");
        due("judge, the one ahead isn't ASKED", judged(unasked, 0, 3, 2), 31);
        due("judge, the one ahead is ASKED and done", judgedRow(unasked, 1, 1, 2), -1);
        Making later = with("do 1 from 2 to 3", "do 1 from 0 to 5 after 0");
        due("judge, the one ahead comes later", judgedRow(later, 0, 2), 1);
        due("judge, the one ahead was done", judgedRow(later, 0, 0, 0, 1, 2), -1);
        Making none = both(more, x -> x.swap(1, -1));
        due("judge, after none any more", judgedRow(none, 0, 2), -1);
        Making chain = with("do 1 from 0 to 5", "do 1 from 0 to 5 after 0", "do 1 from 0 to 5 after 1");
        due("judge of a chain", judgedRow(chain, 0, 1, 2, 4), -1);
        due("judge of a chain's last one too early", judgedRow(chain, 0, 1, 4), 11);
    }

    private static void openAgain() {
        of(-2, "AGAIN: if it wasn't done in the span of h yet, and in each one ahead was");
        Making again = with("again 3 from 1 to 8");
        int[][] fine = {sets(0, 1, 0, 0, 1, 0, 0, 1), sets(0, 0, 0, 1, 0, 0, 1, 0, 1), sets(0, 0, 1, 0, 1, 0, 0, 0, 1)};
        for (int[] row : fine) due("judge of " + row.length + " sets", judgedRow(again, 0, row), -1);
        due("judge, ahead of p", judgedRow(again, 0, 1), 1);
        due("judge, twice in the first span", judgedRow(again, 0, 0, 1, 1), 21);
        due("judge, twice in the first span", judgedRow(again, 0, 0, 1, 0, 1), 31);
        due("judge, twice in the second span", judgedRow(again, 0, 0, 1, 0, 0, 1, 0, 1), 61);
        due("judge, twice in the last, shorter one", judgedRow(again, 0, 0, 1, 0, 0, 1, 0, 0, 1, 1), 81);
        due("judge, after the end", judgedRow(again, 0, 0, 1, 0, 0, 1, 0, 0, 1, 0, 1), 91);
        due("judge, without the first", judgedRow(again, 0, 0, 0, 0, 0, 1), 41);
        due("judge, without the second", judgedRow(again, 0, 0, 1, 0, 0, 0, 0, 0, 1), 71);
        // The span that went by without it wasn't asked for then; by the other outcome it can't be open any more.
        KeptPromises x = made(both(with("again 2 from 0 to 5 if 0=1"), idle(2)));
        due("status(2)", x.status(2), 0);
        due("can(1)", x.can(1), 0);
        due("can(0)", x.can(0), 1);
        due("ends(0, 1)", x.ends(0, 1), -5);
        KeptPromises y = made(both(with("again 2 from 0 to 5 if 0=1"), idle(1)));
        due("can(1) in the first span", y.can(1), 1);
        due("ends(0, 1) in the first span", y.ends(0, 1), 101);
    }

    private static void each() {
        of(-2, "A set of WORKS MAY be done in h: each is OPEN");
        Making all = both(with("do 1 from 0 to 5", "do 1 from 1 to 5", "free from 9 to 9", "never 0 from 9 to 9"),
            x -> x.hands(0, 2));
        due("judge of nothing", judged(all, 0, 0, 0), -1);
        due("judge of one that isn't OPEN", judged(all, 0, 0, 2), 1);
        due("judge of one that is and one that isn't", judged(all, 0, 0, 3), 1);
        for (int set : new int[] {4, 5, 8, 9, 16, 17, 1 << 9, 1 << 30, LEAST, MOST, -1, -2}) {
            due("judge of what is no WORK: " + set, judged(all, 0, 0, set), 1);
            due("work of what is no WORK: " + set, made(all).work(set), -6);
        }
        due("work(3)", made(all).work(3), -6);
        due("work(1)", made(all).work(1), 0);
    }

    private static void handsAndThings() {
        String work = "do 3 from 0 to 11";
        for (int h : new int[] {0, 5, 11}) {
            for (int n = 0; n <= 2; n++) {
                of(-2, "no more than HANDS");
                int k = n;
                Making hands = both(with(work, work, work), x -> x.hands(h, k));
                int[] three = {0, 1, 2, 3, 4, 5, 6, 7};
                for (int set : three) {
                    due("judge of " + set + " with " + n + " HANDS", judged(hands, 0, h, set),
                        Integer.bitCount(set) <= n ? -1 : 10 * h + 2);
                }
            }
            of(-2, "no two with the same THING");
            Making things = both(with(work + " with 0", work + " with 0", work + " with 3", work, work), x -> x.hands(h, 2));
            for (int a = 0; a < 5; a++) {
                for (int b = a + 1; b < 5; b++) {
                    due("judge of " + a + " and " + b, judged(things, 0, h, 1 << a | 1 << b), a == 0 && b == 1 ? 10 * h + 3 : -1);
                }
            }
            due("judge of one alone", judged(things, 0, h, 1), -1);
        }
        of(-2, "no two with the same THING");
        Making none = both(with(work + " with 1", work + " with 1"), x -> x.hands(0, 2));
        due("work(3)", made(none).work(3), -6);
        due("work(2)", made(none).work(2), 0);
    }

    private static void free() {
        int[][] ends = {{0, 0}, {4, 6}, {11, 11}};
        for (int[] e : ends) {
            Making free = with("do 1 from 0 to 11", "free from " + e[0] + " to " + e[1],
                "free from " + e[0] + " to " + e[1] + " if 2=1");
            Making iffy = both(with("do 1 from 0 to 11", "free from " + e[0] + " to " + e[1] + " if 1=1"), x -> x.known(1, 11));
            for (int h = 0; h < 12; h++) {
                boolean in = h >= e[0] && h <= e[1];
                of(-2, "none if a FREE PROMISE that is ASKED has h from p to q");
                due("judge in HOUR " + h, judged(free, 0, h, 1), in ? 10 * h + 4 : -1);
                due("judge of nothing in HOUR " + h, judged(free, 0, h, 0), -1);
                due("judge in HOUR " + h + ", not ASKED", judged(iffy, 5, h, 1), -1);
                of(-2, "(FREE, NEVER ones with a FORK that isn't KNOWN yet: so, too, if they are ASKED.)");
                due("judge in HOUR " + h + ", not KNOWN yet", judged(iffy, 2, h, 1), in ? 10 * h + 4 : -1);
            }
        }
        of(-2, "none if a FREE PROMISE that is ASKED has h from p to q");
        Making now = with("do 1 from 0 to 11", "free from 0 to 0");
        due("work(1)", made(now).work(1), -6);
        due("work(0)", made(now).work(0), 0);
    }

    private static void never() {
        int[][] ends = {{0, 0}, {4, 6}, {11, 11}};
        for (int[] e : ends) {
            for (int t = 0; t < 4; t++) {
                String from = " from " + e[0] + " to " + e[1];
                Making never = both(with("do 1 from 0 to 11 with " + t, "do 1 from 0 to 11 with " + (t + 1) % 4,
                    "do 1 from 0 to 11", "never " + t + from));
                Making iffy = both(with("do 1 from 0 to 11 with " + t, "never " + t + from + " if 0=0"), x -> x.known(0, 11));
                for (int h = 0; h < 12; h++) {
                    boolean in = h >= e[0] && h <= e[1];
                    int k = h;
                    of(-2, "none with a THING of a NEVER PROMISE that is ASKED and has h from p to q");
                    due("judge in HOUR " + h, judged(never, 0, h, 1), in ? 10 * h + 5 : -1);
                    due("judge of another THING", judged(never, 0, h, 2), -1);
                    due("judge without a THING", judged(never, 0, h, 4), -1);
                    due("judge of both", judged(both(never, x -> x.hands(k, 2)), 0, h, 3), in ? 10 * h + 5 : -1);
                    due("judge in HOUR " + h + ", not ASKED", judged(iffy, 7, h, 1), -1);
                    of(-2, "(FREE, NEVER ones with a FORK that isn't KNOWN yet: so, too, if they are ASKED.)");
                    due("judge in HOUR " + h + ", not KNOWN yet", judged(iffy, 6, h, 1), in ? 10 * h + 5 : -1);
                }
            }
        }
        of(-2, "none with a THING of a NEVER PROMISE that is ASKED and has h from p to q");
        Making now = with("do 1 from 0 to 11 with 0", "never 0 from 0 to 0");
        due("work(1)", made(now).work(1), -6);
        due("work(1) an HOUR later", made(both(now, idle(1))).work(1), 0);
    }

    private static void left() {
        of(-2, "LEFT of each done is 1 less");
        KeptPromises x = made("do 3 from 0 to 11", "again 4 from 0 to 11", "do 1 from 0 to 11");
        x.hands(0, 2);
        int[][] steps = {{3, 2, 2, 1}, {1, 1, 2, 1}, {0, 1, 2, 1}, {1, 0, 2, 1}, {6, 0, 1, 0}};
        x.hands(4, 2);
        for (int[] s : steps) {
            due("work(" + s[0] + ")", x.work(s[0]), 0);
            for (int n = 0; n < 3; n++) due("LEFT of " + n, x.promiseOf(n, 10), s[n + 1]);
        }
    }

    /** Each hour's set with what gets lost in it. */
    private static void goes(Making first, int[]... hours) {
        KeptPromises x = made(first);
        for (int[] h : hours) due("work(" + h[0] + ") in HOUR " + x.status(3), x.work(h[0]), h[1]);
    }

    private static void lostAtItsEnd() {
        of(-2, "Then, at the end of h: LOST is each ASKED WORK (of the set that is meant) that isn't LOST and has LEFT above 0, "
            + "if q is h");
        for (int q : new int[] {0, 1, 5, 11}) {
            for (String text : new String[] {"do 1 from 0 to ", "whole 1 from 0 to ", "again 6 from " + q + " to "}) {
                KeptPromises x = made(text + q);
                for (int h = 0; h < 12; h++) due("work(0) in HOUR " + h + " of " + text + q, x.work(0), h == q ? 1 : 0);
                due("status(2)", x.status(2), 1);
            }
            KeptPromises y = made("do 1 from 0 to " + q + " if 1=1", "once 1 from 0 to " + q + " if 1=0");
            for (int h = 0; h < 12; h++) due("work(0) of one that isn't ASKED, in HOUR " + h, y.work(0), h == q ? 2 : 0);
            KeptPromises z = made(both(with("do 1 from 0 to " + q), idle(q)));
            due("work(1) in the last HOUR", z.work(1), 0);
        }
        Making two = with("do 2 from 0 to 2");
        goes(two, sets(1, 0), sets(0, 0), sets(0, 1), sets(0, 0));
        goes(two, sets(1, 0), sets(0, 0), sets(1, 0), sets(0, 0));
        goes(two, sets(0, 0), sets(0, 0), sets(1, 1));
        Making unknown = both(with("do 1 from 0 to 1 if 0=0"), x -> x.known(0, 2));
        goes(unknown, sets(0, 0), sets(0, 1));
        Making each = with("do 1 from 0 to 0", "do 1 from 0 to 0", "do 1 from 0 to 1", "free from 0 to 0", "never 0 from 0 to 0");
        goes(each, sets(0, 3), sets(0, 4));
        Making once = with("whole 2 from 0 to 2");
        goes(once, sets(1, 0), sets(0, 1), sets(0, 0), sets(0, 0));
    }

    private static void lostWhole() {
        of(-2, "a WHOLE one that had begun (LEFT below LENGTH as h began) and wasn't done in h");
        Making whole = with("whole 3 from 0 to 9");
        int[] no = sets(0, 0);
        int[] yes = sets(1, 0);
        goes(whole, yes, yes, sets(0, 1), sets(0, 0));
        goes(whole, yes, sets(0, 1), sets(1, -6), sets(0, 0));
        goes(whole, yes, yes, yes, no, no, no, no, no, no, no, no, no);
        goes(whole, no, no, yes, yes, yes, no, no, no, no, no, no, no);
        goes(whole, no, no, no, no, no, no, no, yes, yes, yes, no, no);
        goes(whole, no, no, no, no, no, no, no, no, yes, sets(1, 1), no, no);
        goes(whole, no, no, no, no, no, no, no, no, no, sets(0, 1), no, no);
        goes(with("do 3 from 0 to 9"), yes, no, yes, no, yes, no);
        goes(with("whole 1 from 0 to 9"), yes, no, no);
    }

    private static void lostAgain() {
        of(-2, "an AGAIN one of which a span ends in h (or q is h) and wasn't done in it");
        Making again = with("again 3 from 1 to 8");
        int[] no = sets(0, 0);
        int[] yes = sets(1, 0);
        int[] lost = sets(0, 1);
        goes(again, no, no, no, lost, no, no, no, no, no, no);
        goes(again, no, no, no, yes, no, no, lost, no, no, no);
        goes(again, no, yes, no, no, no, no, yes, no, lost, no);
        goes(again, no, yes, no, no, no, no, yes, no, yes, no);
        goes(again, no, no, yes, no, yes, no, no, yes, no, no);
        goes(with("again 1 from 0 to 2"), yes, yes, yes, no);
        goes(with("again 1 from 0 to 2"), yes, lost, no);
        goes(with("again 6 from 0 to 11"), no, no, no, no, no, yes, no, no, no, no, no, lost);
        goes(with("again 6 from 0 to 11"), no, no, no, no, no, lost, no, no, no, no, no, no);
        goes(with("again 6 from 0 to 6"), no, no, no, no, no, yes, lost);
        goes(with("again 6 from 0 to 6"), no, no, no, no, no, yes, yes);
        goes(with("again 2 from 0 to 5 if 0=1"), no, no, no, no, no, no, no);
    }

    // ---- keepings

    private static void keepings() {
        of(-2, "A KEEPING, by an OUTCOME, from NOW on: sets for all HOURS from NOW on that MAY be done, by which no WORK of a set "
            + "of PROMISES gets LOST, and none is LOST");
        due("can(0) without PROMISES", made(NEW).can(0), 1);
        KeptPromises x = made("do 3 from 0 to 2");
        due("can(0) with just enough HANDS", x.can(0), 1);
        for (int h = 0; h < 3; h++) {
            x.hands(h, 0);
            due("can(0) with one less", x.can(0), 0);
            x.hands(h, 1);
        }
        x.hands(0, 2);
        due("can(0) of one that can be done but once an HOUR", x.can(0), 1);
        x.hands(1, 0);
        due("can(0) of one that can be done but once an HOUR", x.can(0), 0);
        KeptPromises y = made("do 2 from 0 to 4");
        for (int h = 0; h < 3; h++) y.work(0);
        due("can(0) with as many HOURS as LEFT", y.can(0), 1);
        y.work(0);
        due("can(0) with fewer", y.can(0), 0);
        y.work(1);
        due("can(0) of a LOST one", y.can(0), 0);
        for (int h = 5; h < 12; h++) y.work(0);
        due("can(0) of a LOST one when all is over", y.can(0), 0);
        KeptPromises z = made("do 1 from 0 to 1");
        z.work(1);
        for (int h = 1; h < 12; h++) z.work(0);
        due("can(0) when all is over and kept", z.can(0), 1);
        KeptPromises past = made("do 1 from 0 to 1 if 0=1");
        past.work(0);
        past.work(0);
        due("can(1) of one whose HOURS went by when it wasn't ASKED", past.can(1), 1);
        of(-2, "Without another word: of all PROMISES");
        KeptPromises all = made("do 1 from 0 to 0 with 0");
        due("can(0)", all.can(0), 1);
        Texts.promise(all, "never 0 from 0 to 0 if 0=1");
        Texts.promise(all, "free from 0 to 0 if 1=1");
        for (int o = 0; o < 4; o++) due("can(" + o + ") with NEVER and FREE", all.can(o), o == 0 ? 1 : 0);
        KeptPromises six = made("do 2 from 0 to 11", "do 2 from 0 to 11", "do 2 from 0 to 11", "do 2 from 0 to 11",
            "do 2 from 0 to 11", "do 2 from 0 to 11");
        due("can(0) of twelve HOURS' work", six.can(0), 1);
        six.hands(7, 0);
        due("can(0) with eleven HANDS", six.can(0), 0);
        six.hands(0, 2);
        due("can(0) with twelve", six.can(0), 1);
    }

    /** Each two of six in the first two hours, the others one by one. */
    private static void keepingsOfPairs() {
        of(-2, "A KEEPING, by an OUTCOME, from NOW on: sets for all HOURS from NOW on that MAY be done");
        for (int a = 0; a < 6; a++) {
            for (int b = a + 1; b < 6; b++) {
                KeptPromises x = made(NEW);
                int[] sets = new int[6];
                for (int n = 0, h = 2; n < 6; n++) {
                    boolean one = n == a || n == b;
                    Texts.promise(x, one ? "do 2 from 0 to 1" : "do 1 from " + h + " to " + h);
                    if (!one) sets[h++] = 1 << n;
                }
                sets[0] = sets[1] = 1 << a | 1 << b;
                due("can(0) of " + a + " and " + b + " with one of the HANDS", x.can(0), 0);
                x.hands(0, 2);
                due("can(0) of " + a + " and " + b + " with two in an HOUR", x.can(0), 0);
                x.hands(1, 2);
                hours(x, 0, sets);
                due("must(0) of " + a + " and " + b, x.must(0), sets[0]);
                due("ends(" + b + ", 0)", x.ends(b, 0), 0);
                due("all()", x.all(), 1);
            }
        }
    }

    private static void keepingsOfThings() {
        of(-2, "A KEEPING, by an OUTCOME, from NOW on: sets for all HOURS from NOW on that MAY be done");
        Making hands = x -> {
            x.hands(0, 2);
            x.hands(1, 0);
            x.hands(2, 0);
        };
        String[] texts = {"do 1 from 0 to 2 with 1", "do 1 from 0 to 2 with 1", "do 1 from 0 to 2 with 2", "do 1 from 0 to 2"};
        for (int a = 0; a < 4; a++) {
            for (int b = a + 1; b < 4; b++) {
                KeptPromises x = made(both(with(texts[a], texts[b]), hands));
                due("can(0) of '" + texts[a] + "' and '" + texts[b] + "'", x.can(0), b == 1 ? 0 : 1);
                due("all() of both", x.all(), b == 1 ? 0 : 1);
                due("fewest(0) of both", x.fewest(0), b == 1 ? 1 : 0);
            }
        }
        for (int a = 0; a < 4; a++) {
            for (int b = 0; b < 4; b++) {
                KeptPromises x = made("do 1 from 0 to 1 with " + a, "do 1 from 0 to 2 with " + b, "do 1 from 0 to 0");
                due("can(0) with " + a + " and " + b, x.can(0), 1);
                x.hands(1, 2);
                x.hands(2, 0);
                due("can(0) with " + a + " and " + b + " in one HOUR", x.can(0), a == b ? 0 : 1);
            }
        }
        KeptPromises two = made(texts[3], texts[3]);
        hands.on(two);
        due("can(0) without a THING", two.can(0), 1);
        KeptPromises three = made("do 1 from 5 to 5 with 1", "do 1 from 6 to 6 with 1", "do 1 from 0 to 0", "do 1 from 0 to 0",
            "do 1 from 0 to 0");
        three.hands(0, 2);
        due("quarrel(0) of three without a THING", three.quarrel(0), 4 + 8 + 16);
    }

    private static void keepingsOfTheLastHours() {
        of(-2, "A KEEPING, by an OUTCOME, from NOW on: sets for all HOURS from NOW on that MAY be done, by which no WORK of a set "
            + "of PROMISES gets LOST, and none is LOST");
        KeptPromises last = made(both(with("do 1 from 10 to 11", "do 1 from 11 to 11"), idle(9)));
        hours(last, 0, 0, 1, 2);
        due("must(0) in NOW 9", last.must(0), 0);
        last.work(0);
        due("must(0) in NOW 10", last.must(0), 1);
        due("begin() in NOW 10", last.begin(), 1);
        last.work(0);
        due("can(0) in NOW 11", last.can(0), 0);
        Making few = x -> {
            for (int h = 0; h < 12; h++) x.hands(h, h == 0 || h == 2 ? 1 : 0);
        };
        String early = "do 1 from 0 to 5";
        String late = "do 1 from 2 to 5";
        due("can(0), the one ahead being too late", made(both(with(late, early + " after 0"), few)).can(0), 0);
        due("all(), the one ahead being too late", made(both(with(late, early + " after 0"), few)).all(), 0);
        due("can(0), the one ahead being in time", made(both(with(early, late + " after 0"), few)).can(0), 1);
        due("can(0), the one ahead being too late", made(both(with(early, late, early), few, x -> x.swap(0, 1),
            x -> x.swap(2, -1))).can(0), 0);
        due("can(0), the one ahead being in time", made(both(with(late, early), few, x -> x.swap(0, 1))).can(0), 1);
        String three = "do 3 from 0 to 2";
        KeptPromises six = made(three, three + " after 0", three + " after 1", three + " after 2", three + " after 3", three + " after 4");
        due("can(0) of six that wait for each other far too long", six.can(0), 0);
        due("all() of six that wait for each other far too long", six.all(), 0);
        due("fewest(0) of six that wait for each other far too long", six.fewest(0), 5);
        KeptPromises done = made("do 1 from 0 to 2", "do 1 from 3 to 5");
        done.work(1);
        done.swap(0, 1);
        due("can(0) of one that is done and told to be after a later one", done.can(0), 1);
        hours(done, 0, 0, 0, 0, 0, 2);
    }

    private static void outside() {
        of(-2, "PROMISES outside the set are as if they weren't there (a WORK that is after such a one is never OPEN)");
        KeptPromises x = made("do 1 from 0 to 0", "do 1 from 1 to 1 after 0", "do 1 from 1 to 1");
        due("quarrel(0), in which one is after a left out one", x.quarrel(0), 2);
        KeptPromises y = made("do 1 from 0 to 0", "do 1 from 1 to 1", "do 1 from 1 to 1");
        due("quarrel(0), in which none is", y.quarrel(0), 6);
        KeptPromises z = made("do 1 from 0 to 1", "free from 0 to 1", "never 1 from 0 to 0", "do 1 from 0 to 0 with 1");
        due("doomed(0, 0) as if the FREE one weren't there", z.doomed(0, 0), 0);
        due("doomed(3, 0) as if the NEVER one weren't there", z.doomed(3, 0), 0);
        due("can(0) with them", z.can(0), 0);
        KeptPromises lost = made("do 1 from 0 to 0", "do 1 from 0 to 3");
        lost.work(0);
        due("can(0) with a LOST one", lost.can(0), 0);
        due("doomed(1, 0) as if the LOST one weren't there", lost.doomed(1, 0), 0);
        KeptPromises done = made("do 1 from 0 to 3", "do 1 from 1 to 1 after 0", "do 1 from 1 to 1");
        done.work(1);
        due("quarrel(0), one being after one that is done and left out", done.quarrel(0), 2);
    }

    private static void hours(KeptPromises x, int outcome, int... sets) {
        int now = x.status(3);
        for (int h = now; h < 12; h++) {
            due("hour(" + outcome + ", " + h + ")", x.hour(outcome, h), h - now < sets.length ? sets[h - now] : 0);
        }
    }

    private static void theFirst() {
        of(-2, "Of several the first: by the least set (as bits) in NOW, then in the next HOUR");
        hours(made("do 1 from 0 to 1", "do 1 from 0 to 1"), 0, 1, 2);
        hours(made("do 1 from 0 to 2", "do 1 from 0 to 2"), 0, 0, 1, 2);
        hours(made("do 1 from 0 to 1", "do 1 from 0 to 0"), 0, 2, 1);
        KeptPromises x = made("do 1 from 0 to 2", "do 1 from 0 to 2", "do 1 from 0 to 2");
        x.hands(2, 2);
        hours(x, 0, 0, 1, 6);
        x.hands(1, 2);
        hours(x, 0, 0, 1, 6);
        x.hands(2, 1);
        hours(x, 0, 0, 3, 4);
        x.hands(2, 0);
        hours(x, 0, 1, 6);
        KeptPromises four = made("do 1 from 0 to 1 with 0", "do 1 from 0 to 1 with 1", "do 1 from 0 to 1 with 0",
            "do 1 from 0 to 1 with 1");
        four.hands(0, 2);
        four.hands(1, 2);
        hours(four, 0, 3, 12);
        // 4 would do in NOW, too (then 6, 1, 1); 1 and 2 would not.
        KeptPromises two = made("whole 2 from 0 to 3", "do 1 from 0 to 2 with 1", "do 2 from 0 to 2");
        two.hands(0, 2);
        two.hands(1, 2);
        hours(two, 0, 3, 5, 4);
        Making later = both(with("do 1 from 0 to 5", "do 1 from 0 to 5"), idle(3));
        hours(made(later), 0, 0, 1, 2);
        KeptPromises y = made(later);
        due("work(2)", y.work(2), 0);
        hours(y, 0, 0, 1);
    }

    private static void bearingAll() {
        of(-2, "BEARING ALL: a plan for all OUTCOMES that agree with TURNED in FORKS KNOWN by NOW: in each HOUR sets hang only on "
            + "how FORKS KNOWN from that HOUR or earlier on turn out, and whatever comes no WORK gets LOST, none is LOST");
        due("all() without PROMISES", made(NEW).all(), 1);
        for (int now = 0; now < 12; now++) {
            for (int from = 0; from < 12; from++) {
                for (int v = 0; v < 2; v++) {
                    KeptPromises x = made("do 1 from " + now + " to " + now, "free from " + now + " to " + now + " if 2=1");
                    x.known(2, 11);
                    x.turn(2, v);
                    for (int h = 0; h < now; h++) x.work(0);
                    x.known(2, from);
                    String text = " in NOW " + now + ", KNOWN from " + from + " on, TURNED " + v;
                    boolean told = from <= now;
                    due("all()" + text, x.all(), told && v == 0 ? 1 : 0);
                    due("trap()" + text, x.trap(), told && v == 0 ? -1 : 4);
                    due("begin()" + text, x.begin(), told && v == 0 ? 1 : -5);
                }
            }
        }
        KeptPromises lost = made("do 1 from 0 to 0", "do 1 from 5 to 5");
        lost.work(0);
        due("all() of a LOST one", lost.all(), 0);
        for (int h = 1; h < 12; h++) lost.work(0);
        due("all() of a LOST one when all is over", lost.all(), 0);
        due("all() when all is over", made(both(with("free from 0 to 11"), idle(12))).all(), 1);
    }

    private static void bearingUnknown() {
        of(-2, "in each HOUR sets hang only on how FORKS KNOWN from that HOUR or earlier on turn out, and whatever comes no WORK "
            + "gets LOST, none is LOST");
        for (int f = 0; f < 3; f++) {
            KeptPromises x = made("do 1 from 4 to 5", "free from 4 to 4 if " + f + "=1", "free from 5 to 5 if " + f + "=0");
            for (int from = 0; from < 12; from++) {
                x.known(f, from);
                due("can(0)", x.can(0), 1);
                due("can(7)", x.can(7), 1);
                due("trap()", x.trap(), -1);
                due("all() with FORK " + f + " KNOWN from " + from + " on", x.all(), from <= 4 ? 1 : 0);
            }
            KeptPromises y = made("do 1 from 2 to 4 if " + f + "=1", "do 1 from 4 to 4");
            for (int from = 0; from < 12; from++) {
                y.known(f, from);
                due("all() of an if KNOWN from " + from + " on", y.all(), from <= 3 ? 1 : 0);
            }
            y.hands(4, 2);
            y.known(f, 4);
            due("all() of an if KNOWN just in time", y.all(), 1);
            y.known(f, 5);
            due("all() of an if KNOWN too late", y.all(), 0);
        }
        KeptPromises later = made("do 1 from 4 to 5", "do 1 from 9 to 9 if 1=1", "free from 4 to 4 if 0=1", "free from 5 to 5 if 0=0");
        later.known(0, 5);
        later.known(1, 9);
        due("all() of one that has but two HOURS", later.all(), 0);
        later.known(0, 4);
        due("all() of one that has but two HOURS, KNOWN in time", later.all(), 1);
        KeptPromises either = made("do 1 from 2 to 2 if 0=0", "do 1 from 2 to 2 if 0=1", "do 2 from 0 to 1");
        either.known(0, 2);
        due("all() of two of which one comes", either.all(), 1);
        either.known(0, 3);
        due("all() of two of which one comes, KNOWN too late", either.all(), 0);
        // If fork 0 turns out 0, the first waits till hour 3; else it is what the second is after.
        KeptPromises waits = made("do 1 from 0 to 3", "do 1 from 0 to 3 after 0 if 0=1", "do 2 from 1 to 2 if 0=0");
        waits.hands(0, 0);
        waits.known(0, 1);
        due("all() of one that another may be after", waits.all(), 1);
        due("begin() of one that another may be after", waits.begin(), 0);
        waits.hands(3, 0);
        due("all() of one that another may be after, without HANDS", waits.all(), 0);
        KeptPromises three = made("do 1 from 3 to 3 if 0=1", "do 1 from 4 to 4 if 1=1", "do 1 from 5 to 5 if 2=1",
            "do 3 from 2 to 8");
        for (int f = 0; f < 3; f++) three.known(f, 3 + f);
        due("all() of three FORKS", three.all(), 1);
        for (int h = 6; h < 9; h++) {
            three.hands(h, 0);
            // Hour 2 is sure, and with each hand less one more of the hours 3 to 5 would have to be.
            due("all() of three FORKS with " + (8 - h) + " HANDS after them", three.all(), h == 6 ? 1 : 0);
        }
    }
}
