import java.io.IOException;

/** The boundary cases of promises 16 to 20: keepings, plans that bear all, traps. */
public final class KeepingBoundaryTest extends Bounds {
    private static final int[] NO_OUTCOMES = {LEAST, -1, 8, MOST};
    private static final Making SOME = both(with("do 2 from 0 to 3 with 1", "do 1 from 1 to 2 if 0=1", "free from 3 to 3 if 2=1"),
        x -> x.known(2, 2));

    public static void main(String[] args) throws IOException {
        can();
        hours();
        hoursRefused();
        all();
        begin();
        beginRefused();
        trap();
        end("KeepingBoundaryTest", 16, 20);
    }

    private static void can() {
        of(16, "Whether there is a KEEPING by an OUTCOME (0 to 7): 1, 0");
        for (int o = 0; o < 8; o++) {
            int outcome = o;
            quiet(SOME, "can(" + o + ")", x -> x.can(outcome), 1);
            quiet(NEW, "can(" + o + ") without PROMISES", x -> x.can(outcome), 1);
            Making hard = both(SOME, x -> x.hands(2, 0));
            // Three hands up to hour 3, of which hour 3 may be free.
            quiet(hard, "can(" + o + ") with fewer HANDS", x -> x.can(outcome), (o & 5) == 5 ? 0 : 1);
            Making over = both(SOME, idle(12));
            quiet(over, "can(" + o + ") of a LOST one, all being over", x -> x.can(outcome), 0);
        }
        Making done = both(with("do 1 from 0 to 0", "free from 1 to 11"), x -> x.work(1), idle(11));
        quiet(done, "can(7) when all is over and none is LOST", x -> x.can(7), 1);
        KeptPromises last = made(both(with("do 1 from 0 to 11"), idle(11)));
        due("can(0) in NOW 11", last.can(0), 1);
        last.hands(11, 0);
        due("can(0) in NOW 11 without HANDS", last.can(0), 0);
        of(16, "-6");
        for (int o : NO_OUTCOMES) refused(SOME, "can(" + o + ")", x -> x.can(o), -6);
        for (int o : NO_OUTCOMES) refused(NEW, "can(" + o + ")", x -> x.can(o), -6);
    }

    private static void hours() {
        of(17, "The set of an HOUR (from NOW on) in the first KEEPING by an OUTCOME");
        for (int h = 0; h < 12; h++) {
            int hour = h;
            quiet(NEW, "hour(0, " + h + ") without PROMISES", x -> x.hour(0, hour), 0);
        }
        int[][] due = {{0, 0, 1, 1}, {0, 1, 2, 1}, {0, 0, 1, 1}, {0, 1, 2, 1}, {0, 1, 1, 0}, {1, 1, 2, 0}};
        for (int o = 0; o < 6; o++) {
            for (int h = 0; h < 12; h++) {
                int outcome = o;
                int hour = h;
                quiet(SOME, "hour(" + o + ", " + h + ")", x -> x.hour(outcome, hour), h < 4 ? due[o][h] : 0);
            }
        }
        for (int now = 0; now < 12; now++) {
            KeptPromises x = made(both(with("do 1 from 0 to 11"), idle(now)));
            for (int h = now; h < 12; h++) due("hour(0, " + h + ") in NOW " + now, x.hour(0, h), h == 11 ? 1 : 0);
        }
        KeptPromises two = made("do 1 from 3 to 3", "do 1 from 3 to 3", "do 1 from 4 to 11");
        two.hands(3, 2);
        due("hour(0, 3) of two", two.hour(0, 3), 3);
        due("hour(0, 11)", two.hour(0, 11), 4);
        KeptPromises ninth = made("free from 0 to 0", "free from 0 to 0", "free from 0 to 0", "do 1 from 0 to 3", "do 1 from 0 to 3",
            "do 1 from 0 to 1", "do 1 from 4 to 4", "do 1 from 5 to 5", "do 1 from 6 to 6");
        due("hour(0, 6) of the ninth", ninth.hour(0, 6), 256);
        due("hour(0, 1)", ninth.hour(0, 1), 32);
        due("hour(0, 2)", ninth.hour(0, 2), 8);
        due("hour(0, 3)", ninth.hour(0, 3), 16);
    }

    private static void hoursRefused() {
        of(17, "-5: no such HOUR, OUTCOME, KEEPING");
        for (int h : new int[] {LEAST, -1, 12, MOST}) {
            refused(SOME, "hour(0, " + h + ")", x -> x.hour(0, h), -5);
            refused(SOME, "hour(8, " + h + ")", x -> x.hour(8, h), -5);
            refused(NEW, "hour(0, " + h + ") without PROMISES", x -> x.hour(0, h), -5);
        }
        for (int now = 1; now <= 12; now++) {
            int before = now - 1;
            Making late = both(with("free from 0 to 11"), idle(now));
            refused(late, "hour(0, " + before + ") before NOW", x -> x.hour(0, before), -5);
        }
        refused(idle(12), "hour(0, 12) when all is over", x -> x.hour(0, 12), -5);
        for (int o : NO_OUTCOMES) refused(SOME, "hour(" + o + ", 0)", x -> x.hour(o, 0), -5);
        Making none = both(SOME, x -> x.hands(2, 0));
        for (int h = 0; h < 12; h++) {
            int hour = h;
            refused(none, "hour(5, " + h + ") without a KEEPING", x -> x.hour(5, hour), -5);
        }
        Making lost = both(with("do 1 from 0 to 0"), idle(1));
        refused(lost, "hour(0, 11) of a LOST one", x -> x.hour(0, 11), -5);
    }

    private static void all() {
        of(18, "Whether there is a plan BEARING ALL: 1, 0");
        quiet(NEW, "all() without PROMISES", x -> x.all(), 1);
        quiet(SOME, "all()", x -> x.all(), 1);
        Making fewer = both(SOME, x -> x.hands(2, 0));
        quiet(fewer, "all() with fewer HANDS, fork 0 being known not to ask", x -> x.all(), 1);
        quiet(both(fewer, x -> x.turn(0, 1)), "all() with fewer HANDS, fork 0 being known to ask", x -> x.all(), 0);
        quiet(both(fewer, x -> x.known(0, 1)), "all() with fewer HANDS, fork 0 not being known yet", x -> x.all(), 0);
        quiet(both(SOME, idle(12)), "all() of a LOST one when all is over", x -> x.all(), 0);
        quiet(both(with("do 1 from 0 to 0"), x -> x.work(1), idle(11)), "all() when all is over", x -> x.all(), 1);
        quiet(both(with("do 1 from 0 to 1"), idle(2)), "all() of a LOST one", x -> x.all(), 0);
        quiet(both(with("do 1 from 0 to 11"), idle(11)), "all() in NOW 11", x -> x.all(), 1);
        Making never = with("do 1 from 0 to 1 with 3", "never 3 from 0 to 0 if 1=1", "never 3 from 1 to 1 if 1=0");
        quiet(both(never, x -> x.known(1, 1)), "all() of NEVER ones, not known in time", x -> x.all(), 0);
        quiet(never, "all() of NEVER ones, known in time", x -> x.all(), 1);
    }

    private static void begin() {
        of(19, "The least set of NOW in a plan BEARING ALL");
        quiet(NEW, "begin() without PROMISES", x -> x.begin(), 0);
        quiet(SOME, "begin()", x -> x.begin(), 0);
        quiet(both(SOME, x -> x.hands(2, 0)), "begin() with fewer HANDS", x -> x.begin(), 1);
        quiet(both(SOME, x -> x.known(0, 1)), "begin(), two forks not being known yet", x -> x.begin(), 1);
        for (int now = 0; now < 12; now++) {
            Making last = both(with("do 1 from 0 to 11", "do 1 from 0 to " + now), idle(now));
            quiet(last, "begin() in NOW " + now, x -> x.begin(), now == 11 ? -5 : 2, now == 11 ? 5 : 0);
        }
        Making two = both(with("do 1 from 0 to 0", "do 1 from 0 to 1", "do 1 from 0 to 0"), x -> x.hands(0, 2));
        quiet(two, "begin() of two", x -> x.begin(), 5);
        Making turned = both(with("do 1 from 0 to 0 if 0=0", "do 1 from 0 to 0 if 0=1"), x -> x.turn(0, 1));
        quiet(turned, "begin() by TURNED", x -> x.begin(), 2);
        Making early = both(with("do 1 from 0 to 1", "do 1 from 1 to 1 if 0=1"), x -> x.known(0, 1));
        quiet(early, "begin() for what may come", x -> x.begin(), 1);
        quiet(both(early, x -> x.known(0, 0)), "begin() knowing that it won't", x -> x.begin(), 0);
    }

    private static void quiet(Making first, String call, Call c, long want, int counted) {
        if (counted == 0) quiet(first, call, c, want);
        else refused(first, call, c, want);
    }

    private static void beginRefused() {
        of(19, "-5: none, NOW is 12");
        refused(both(with("do 1 from 0 to 1"), idle(2)), "begin() of a LOST one", x -> x.begin(), -5);
        refused(both(with("do 1 from 0 to 0"), x -> x.hands(0, 0)), "begin() without HANDS", x -> x.begin(), -5);
        refused(both(with("do 1 from 0 to 0 if 2=1"), x -> x.known(2, 1)), "begin() for what is known too late", x -> x.begin(), -5);
        refused(idle(12), "begin() when all is over", x -> x.begin(), -5);
        refused(both(with("do 1 from 0 to 0"), x -> x.work(1), idle(11)), "begin() when all is over and kept", x -> x.begin(), -5);
        quiet(idle(11), "begin() in NOW 11", x -> x.begin(), 0);
    }

    private static void trap() {
        of(20, "The least OUTCOME that agrees with TURNED in FORKS KNOWN by NOW and has no KEEPING");
        for (int told = 0; told < 8; told++) {
            for (int turned = 0; turned < 8; turned++) {
                for (int bad = 0; bad < 8; bad++) {
                    // Kept by each outcome but those in which one of the three forks turns out so.
                    KeptPromises x = made("do 1 from 0 to 1", "free from 0 to 1 if 0=" + (bad & 1),
                        "free from 0 to 1 if 1=" + (bad >> 1 & 1), "free from 0 to 1 if 2=" + (bad >> 2));
                    int least = -1;
                    for (int o = 7; o >= 0; o--) {
                        boolean agrees = ((o ^ turned) & told) == 0;
                        if (agrees && (o ^ bad ^ 7) != 0) least = o;
                    }
                    for (int f = 0; f < 3; f++) {
                        x.known(f, (told >> f & 1) != 0 ? 0 : 1);
                        x.turn(f, turned >> f & 1);
                    }
                    due("trap() with " + told + " told of " + turned + ", FREE by " + bad, x.trap(), least);
                }
            }
        }
        quiet(both(with("do 1 from 0 to 0"), idle(1)), "trap() of a LOST one", x -> x.trap(), 0);
        Making over = both(with("do 1 from 0 to 0"), x -> x.turn(0, 1), x -> x.turn(2, 1), x -> x.known(2, 11), idle(12));
        quiet(over, "trap() of a LOST one when all is over", x -> x.trap(), 5);
        of(20, "NONE: each has one");
        quiet(NEW, "trap() without PROMISES", x -> x.trap(), -1);
        quiet(idle(12), "trap() when all is over", x -> x.trap(), -1);
        Making known = with("do 1 from 0 to 0", "free from 0 to 0 if 1=1");
        quiet(known, "trap() when it is known not to come", x -> x.trap(), -1);
        quiet(both(known, x -> x.known(1, 1)), "trap() when it isn't known", x -> x.trap(), 2);
        quiet(both(known, x -> x.turn(1, 1)), "trap() when it is known to come", x -> x.trap(), 2);
    }
}
