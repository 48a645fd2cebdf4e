import java.io.IOException;

/** The boundary cases of the Terms, part 3: what can't be kept, rings, rows told by hand, acts, shelves, refusals. */
public final class TermsOfBreakingBoundaryTest extends Bounds {
    public static void main(String[] args) throws IOException {
        quarrels();
        leastOwed();
        leastOwedOfThoseThatWait();
        leastOwedAgain();
        leastOwedOfLostOnes();
        fewest();
        ends();
        must();
        spare();
        doomed();
        rings();
        ringsAreNotOpen();
        openings();
        byHand();
        whys();
        lostByHand();
        actsWrap();
        bodies();
        shelves();
        refusals();
        refusalsOfWrongOnes();
        end("TermsOfBreakingBoundaryTest", -3, -3);
    }

    private static void quarrels() {
        of(-3, "QUARREL by an OUTCOME without a KEEPING: PROMISES, by numbers from 0 on: each is left out of the set if without "
            + "it (and those left out ahead) there is none still; those that stay");
        String now = "do 1 from 0 to 0";
        String next = "do 1 from 1 to 1";
        due("quarrel(0) of two quarrels", made(now, now, next, next).quarrel(0), 12);
        due("quarrel(0) of two quarrels, mixed", made(now, next, now, next).quarrel(0), 10);
        due("quarrel(0) of three, of which two are enough", made(now, now, now).quarrel(0), 6);
        due("quarrel(0) of a WORK too long", made(next, "free from 0 to 1", "do 2 from 0 to 1").quarrel(0), 6);
        due("quarrel(0) of a NEVER one", made("do 1 from 0 to 0 with 1", "never 2 from 0 to 0", "never 1 from 0 to 0").quarrel(0), 5);
        KeptPromises alone = made("do 1 from 1 to 1", "do 1 from 0 to 0");
        alone.hands(0, 0);
        due("quarrel(0) of one alone", alone.quarrel(0), 2);
        alone.hands(1, 0);
        due("quarrel(0) of either", alone.quarrel(0), 2);
        KeptPromises lost = made("do 1 from 0 to 0", "do 1 from 0 to 0", "do 1 from 5 to 5");
        lost.work(0);
        due("quarrel(0) of LOST ones", lost.quarrel(0), 2);
        KeptPromises nine = made("do 1 from 0 to 8", "do 1 from 0 to 8", "do 1 from 0 to 8", "do 1 from 0 to 8", "do 3 from 0 to 8",
            "do 3 from 0 to 8", "free from 0 to 0", "free from 0 to 0", "free from 0 to 0");
        due("quarrel(0) of nine", nine.quarrel(0), 256 + 62);
        nine.hands(0, 2);
        due("quarrel(0) of nine with HANDS where they are free", nine.quarrel(0), 256 + 62);
        nine.hands(1, 2);
        nine.hands(2, 2);
        due("quarrel(0) of nine with HANDS elsewhere", nine.quarrel(0), 0);
    }

    private static void leastOwed() {
        of(-3, "LEAST OWED by an OUTCOME from NOW on: over ways to break some NEVER and FREE ones altogether (their OWED once, "
            + "if ASKED) and sets for HOURS that MAY be done beside the others: the sum of OWED of these and of ASKED WORKS that "
            + "are LOST in the end or now");
        due("dear(0) without PROMISES", made(NEW).dear(0), 0);
        due("dear(0), all kept", made("do 1 from 0 to 0 owe 9", "free from 1 to 11 owe 9").dear(0), 0);
        due("dear(0), the FREE one is less", made("do 1 from 0 to 0 owe 5", "free from 0 to 0 owe 3").dear(0), 3);
        due("dear(0), the WORK is less", made("do 1 from 0 to 0 owe 5", "free from 0 to 0 owe 7").dear(0), 5);
        due("dear(0), a FREE one once", made("do 3 from 0 to 2 owe 9", "free from 0 to 2 owe 4").dear(0), 4);
        due("dear(0), a NEVER one once", made("do 3 from 0 to 2 with 0 owe 9", "never 0 from 0 to 5 owe 8").dear(0), 8);
        due("dear(0), two that a WORK needs", made("do 1 from 0 to 0 with 1 owe 3", "free from 0 to 0 owe 2",
            "never 1 from 0 to 0 owe 2").dear(0), 3);
        due("dear(0), two that a WORK needs", made("do 1 from 0 to 0 with 1 owe 5", "free from 0 to 0 owe 2",
            "never 1 from 0 to 0 owe 2").dear(0), 4);
        due("dear(0), one for two WORKS", made("do 1 from 0 to 0 owe 3", "do 1 from 1 to 1 owe 3",
            "free from 0 to 1 owe 5").dear(0), 5);
        KeptPromises asked = made("do 1 from 0 to 0 owe 9", "free from 0 to 0 if 0=1 owe 4", "do 1 from 0 to 0 if 1=1 owe 6");
        int[] due = {0, 4, 6, 10};
        for (int o = 0; o < 4; o++) due("dear(" + o + ")", asked.dear(o), due[o]);
        due("dear(0), one that waits for another", made("do 1 from 0 to 0 owe 5", "do 1 from 0 to 0 owe 6",
            "do 1 from 1 to 1 after 0 owe 2").dear(0), 6);
        due("dear(0), one that waits for another", made("do 1 from 0 to 0 owe 5", "do 1 from 0 to 0 owe 8",
            "do 1 from 1 to 1 after 0 owe 2").dear(0), 7);
        due("dear(0), a part is no use", made("do 2 from 0 to 1 owe 3", "do 1 from 0 to 0 owe 2").dear(0), 2);
        due("dear(0), a part is no use", made("do 2 from 0 to 1 owe 3", "do 1 from 0 to 0 owe 4").dear(0), 3);
        due("dear(0) of OWED 0", made("do 1 from 0 to 0", "do 1 from 0 to 0").dear(0), 0);
        due("dear(0), a late one that isn't KNOWN in time", made(both(x -> x.known(0, 1),
            with("do 1 from 0 to 0 if 0=1 owe 7"))).dear(1), 7);
        KeptPromises all = made("do 3 from 0 to 11 owe 99", "do 3 from 0 to 11 owe 99", "do 3 from 0 to 11 owe 99",
            "do 3 from 0 to 11 owe 99", "do 3 from 0 to 11 owe 99", "do 3 from 0 to 11 owe 99", "free from 0 to 11 owe 99",
            "never 0 from 0 to 11 owe 99", "never 1 from 0 to 11 owe 99");
        due("dear(0), four of six WORKS for one FREE one", all.dear(0), 3 * 99);
        due("fewest(0)", all.fewest(0), 3);
        for (int h = 0; h < 12; h++) all.hands(h, 0);
        due("dear(0) with no HANDS", all.dear(0), 6 * 99);
        due("fewest(0) with no HANDS", all.fewest(0), 6);
    }

    private static final String LEAST_OWED = "over ways to break some NEVER and FREE ones altogether (their OWED once, if ASKED) "
        + "and sets for HOURS that MAY be done beside the others: the sum of OWED of these and of ASKED WORKS that are LOST in "
        + "the end or now";

    private static void leastOwedOfThoseThatWait() {
        of(-3, LEAST_OWED);
        String[] texts = {"do 1 from 0 to 5 owe 1", "do 1 from 0 to 5 owe 1", "do 1 from 8 to 8 owe 1", "do 1 from 8 to 8 owe 5"};
        for (int first = 0; first < 2; first++) {
            KeptPromises x = made(texts);
            x.swap(1 - first, first);
            due("dear(0), two that are kept one after the other", x.dear(0), 1);
            due("fewest(0)", x.fewest(0), 1);
            x.hands(8, 2);
            due("dear(0), all kept", x.dear(0), 0);
            due("fewest(0), all kept", x.fewest(0), 0);
        }
        // The one that is done owes nothing, though what it is told to be after now can't be done.
        KeptPromises done = made("do 1 from 0 to 5 owe 7", "do 1 from 3 to 3 owe 2", "do 1 from 5 to 5 owe 1");
        done.work(1);
        done.swap(0, 1);
        done.hands(3, 0);
        due("dear(0) of one that is done", done.dear(0), 2);
        due("fewest(0) of one that is done", done.fewest(0), 1);
        KeptPromises past = made("do 1 from 0 to 0 if 0=1 owe 7", "do 1 from 3 to 3 owe 2");
        past.work(0);
        past.swap(0, 1);
        past.hands(3, 0);
        due("dear(1) of one that is over", past.dear(1), 2);
        due("fewest(1) of one that is over", past.fewest(1), 1);
    }

    private static void leastOwedAgain() {
        of(-3, LEAST_OWED);
        KeptPromises x = made("do 1 from 8 to 8 owe 1", "do 1 from 8 to 8 owe 5", "do 1 from 3 to 3 if 0=1 owe 7");
        x.hands(3, 0);
        x.hands(8, 0);
        due("dear(1) with no HANDS", x.dear(1), 13);
        due("fewest(1) with no HANDS", x.fewest(1), 3);
        due("dear(0) with no HANDS", x.dear(0), 6);
        x.hands(8, 1);
        due("dear(0) with one", x.dear(0), 1);
        due("fewest(0) with one", x.fewest(0), 1);
        due("dear(1) with one", x.dear(1), 8);
        x.hands(3, 1);
        due("dear(1) with one of each", x.dear(1), 1);
        x.hands(8, 2);
        due("dear(1) with all", x.dear(1), 0);
    }

    private static void leastOwedOfLostOnes() {
        of(-3, "the sum of OWED of these and of ASKED WORKS that are LOST in the end or now");
        KeptPromises x = made("do 1 from 0 to 0 owe 9", "do 1 from 0 to 0 if 0=0 owe 20", "do 1 from 3 to 3 owe 5");
        x.work(0);
        due("dear(0) of LOST ones", x.dear(0), 29);
        due("dear(1) of LOST ones, of which one isn't ASKED", x.dear(1), 9);
        x.mend(0, 0);
        due("dear(1) of one that is mended", x.dear(1), 4);
        x.hands(3, 0);
        due("dear(1), one LOST now and one in the end", x.dear(1), 9);
        for (int h = 1; h < 12; h++) x.work(0);
        due("dear(0) when all is over", x.dear(0), 29);
        due("fewest(0) when all is over", x.fewest(0), 3);
        of(-3, "LEAST OWED by an OUTCOME from NOW on");
        KeptPromises y = made("free from 0 to 1 owe 50", "free from 1 to 3 owe 2", "do 2 from 2 to 3 owe 9");
        y.work(0);
        y.work(0);
        due("dear(0) without the FREE one that is over", y.dear(0), 2);
        KeptPromises whole = made("whole 3 from 0 to 5 owe 7", "do 1 from 1 to 1 owe 6");
        due("dear(0) of a WHOLE one", whole.dear(0), 0);
        whole.work(1);
        due("dear(0) of a WHOLE one that has begun", whole.dear(0), 6);
        KeptPromises past = made("do 1 from 0 to 1 if 0=1 owe 7");
        past.work(0);
        past.work(0);
        due("dear(1) of one whose HOURS went by when it wasn't ASKED", past.dear(1), 0);
    }

    private static void fewest() {
        of(-3, "FEWEST: the same with 1 in place of each OWED");
        due("fewest(0) without PROMISES", made(NEW).fewest(0), 0);
        due("fewest(0) of OWED 0", made("do 1 from 0 to 0", "do 1 from 0 to 0").fewest(0), 1);
        due("fewest(0), one WORK for two", made("do 1 from 0 to 0 with 1 owe 99", "free from 0 to 0", "never 1 from 0 to 0").fewest(0), 1);
        due("fewest(0), one FREE one for two", made("do 1 from 0 to 0", "do 1 from 1 to 1", "free from 0 to 1 owe 99").fewest(0), 1);
        KeptPromises asked = made("do 1 from 0 to 0 owe 9", "free from 0 to 0 if 0=1 owe 4", "do 1 from 0 to 0 if 1=1 owe 6");
        int[] due = {0, 1, 1, 2};
        for (int o = 0; o < 4; o++) due("fewest(" + o + ")", asked.fewest(o), due[o]);
        KeptPromises x = made("do 1 from 0 to 0 owe 9", "do 1 from 0 to 0 if 0=0 owe 20");
        x.work(0);
        x.mend(0, 2);
        due("fewest(0) of LOST ones", x.fewest(0), 2);
        due("fewest(1) of LOST ones, of which one isn't ASKED", x.fewest(1), 1);
    }

    private static void ends() {
        of(-3, "ENDS of a WORK with LEFT of LENGTH, by an OUTCOME: the first and the last HOUR in which it is done first in "
            + "some KEEPING");
        String[] texts = {"do 1 from 0 to 0", "do 1 from 11 to 11", "do 1 from 0 to 11", "do 3 from 0 to 11", "whole 3 from 2 to 8",
            "whole 1 from 2 to 8", "again 3 from 1 to 8", "again 6 from 0 to 11", "again 1 from 9 to 11", "do 2 from 4 to 5"};
        int[] due = {0, 1111, 1100, 900, 602, 802, 301, 500, 909, 404};
        for (int k = 0; k < texts.length; k++) due("ends(0, 0) of " + texts[k], made(texts[k]).ends(0, 0), due[k]);
        due("ends(0, 0) from NOW 5 on", made(both(with("do 1 from 0 to 11"), idle(5))).ends(0, 0), 1105);
        due("ends(0, 0) in NOW 11", made(both(with("do 1 from 0 to 11"), idle(11))).ends(0, 0), 1111);
        due("ends(0, 0) between FREE ones", made("do 1 from 3 to 6", "free from 3 to 4", "free from 6 to 9").ends(0, 0), 505);
        due("ends(0, 0) on both sides of a FREE one", made("do 1 from 3 to 6", "free from 4 to 5").ends(0, 0), 603);
        KeptPromises x = made("do 1 from 0 to 3", "do 2 from 1 to 4 after 0", "do 1 from 0 to 9 after 1 if 1=1");
        due("ends(0, 0)", x.ends(0, 0), 200);
        due("ends(1, 0)", x.ends(1, 0), 301);
        due("ends(2, 2)", x.ends(2, 2), 903);
        due("ends(2, 0), not ASKED", x.ends(2, 0), -5);
        x.known(1, 5);
        due("ends(2, 2), not KNOWN so soon", x.ends(2, 2), 905);
        x.hands(5, 0);
        due("ends(2, 2), without HANDS then", x.ends(2, 2), 906);
        KeptPromises lost = made("do 1 from 0 to 0", "do 1 from 0 to 5");
        due("doomed(1, 0) ahead of it", lost.doomed(1, 0), 0);
        lost.work(0);
        due("ends(1, 0) beside a LOST one", lost.ends(1, 0), -5);
        due("work(1)", x.work(1), 0);
        due("ends(0, 0) of one that is done", x.ends(0, 0), -5);
        due("work(2)", x.work(2), 0);
        due("ends(1, 0) of one that has begun", x.ends(1, 0), -5);
    }

    private static void must() {
        of(-3, "MUST by an OUTCOME: WORKS that are done in NOW in all KEEPINGS");
        due("must(0) without PROMISES", made(NEW).must(0), 0);
        due("must(0) of one HOUR", made("do 1 from 0 to 0").must(0), 1);
        due("must(0) of two HOURS", made("do 1 from 0 to 1").must(0), 0);
        due("must(0) of as many as LENGTH", made("do 2 from 0 to 1").must(0), 1);
        due("must(0) of either", made("do 1 from 0 to 1", "do 1 from 0 to 1").must(0), 0);
        due("must(0), another one being next", made("do 1 from 0 to 1", "do 1 from 1 to 1").must(0), 1);
        due("must(0), another one being ahead", made("do 1 from 0 to 1", "do 1 from 0 to 1 after 0").must(0), 1);
        due("must(0) of the third", made("free from 1 to 1", "do 1 from 5 to 5", "do 1 from 0 to 1").must(0), 4);
        KeptPromises two = made("do 1 from 0 to 0", "do 1 from 0 to 0");
        two.hands(0, 2);
        due("must(0) of two", two.must(0), 3);
        KeptPromises one = made("do 1 from 0 to 0", "do 1 from 0 to 1");
        one.hands(0, 2);
        due("must(0) of one of two", one.must(0), 1);
        KeptPromises forks = made("do 1 from 0 to 0 if 0=1", "do 1 from 0 to 0 if 0=0");
        due("must(0)", forks.must(0), 2);
        due("must(1)", forks.must(1), 1);
        KeptPromises last = made(both(with("do 1 from 0 to 11"), idle(11)));
        due("must(0) in NOW 11", last.must(0), 1);
        due("must(0) in NOW 10", made(both(with("do 1 from 0 to 11"), idle(10))).must(0), 0);
        KeptPromises six = made("do 1 from 1 to 1", "do 1 from 2 to 2", "do 1 from 3 to 3", "do 1 from 4 to 4", "do 1 from 5 to 5",
            "do 1 from 0 to 5");
        due("must(0) of the sixth", six.must(0), 32);
    }

    private static void spare() {
        of(-3, "SPARE by an OUTCOME: HANDS from NOW on together less LEFT of ASKED WORKS that aren't LOST");
        KeptPromises none = made(NEW);
        due("spare(0) without PROMISES", none.spare(0), 12);
        for (int h = 0; h < 12; h++) none.hands(h, 2);
        due("spare(0) with all HANDS", none.spare(0), 24);
        String three = "do 3 from 0 to 2";
        KeptPromises x = made(three, three, three, three, three, "do 3 from 0 to 2 if 2=1");
        due("spare(0)", x.spare(0), 12 - 15);
        due("spare(4)", x.spare(4), 12 - 18);
        for (int h = 0; h < 12; h++) x.hands(h, 0);
        due("spare(4) with no HANDS", x.spare(4), -18);
        due("work(0)", x.work(0), 0);
        x.hands(0, 2);
        due("spare(4) without the HANDS ahead of NOW", x.spare(4), -18);
        x.hands(1, 2);
        due("spare(4) with those in NOW", x.spare(4), -16);
        due("work(3)", x.work(3), 0);
        due("spare(4) after two were done", x.spare(4), -16);
        due("work(0)", x.work(0), 31);
        due("spare(0) of LOST ones", x.spare(0), 0);
        due("spare(4), one wasn't ASKED and isn't LOST", x.spare(4), -3);
        for (int h = 3; h < 12; h++) x.work(0);
        due("spare(4) when all is over", x.spare(4), -3);
        due("spare(0) of FREE and NEVER ones", made("free from 0 to 11", "never 3 from 0 to 11").spare(0), 12);
    }

    private static void doomed() {
        of(-3, "DOOMED: a WORK that alone (with the WORKS that it is after, and those these are after) has no KEEPING by an OUTCOME");
        KeptPromises alone = made("do 1 from 0 to 0", "do 1 from 0 to 0", "free from 0 to 5");
        for (int n = 0; n < 2; n++) due("doomed(" + n + ", 0) alone", alone.doomed(n, 0), 0);
        alone.hands(0, 0);
        for (int n = 0; n < 2; n++) due("doomed(" + n + ", 0) without HANDS", alone.doomed(n, 0), 1);
        KeptPromises chain = made("do 1 from 0 to 3", "do 2 from 0 to 3 after 0", "do 1 from 0 to 3 after 1", "do 1 from 0 to 4 after 2");
        for (int n = 0; n < 4; n++) due("doomed(" + n + ", 0) of a chain", chain.doomed(n, 0), 0);
        chain.hands(2, 0);
        for (int n = 0; n < 4; n++) due("doomed(" + n + ", 0) of a shorter chain", chain.doomed(n, 0), n < 2 ? 0 : 1);
        chain.swap(3, 0);
        due("doomed(3, 0) after the first", chain.doomed(3, 0), 0);
        KeptPromises fork = made("do 1 from 0 to 3 if 0=1", "do 1 from 0 to 3 after 0", "do 1 from 0 to 3 after 0 if 0=1");
        due("doomed(0, 0), not ASKED", fork.doomed(0, 0), 0);
        due("doomed(1, 0), the one ahead not ASKED", fork.doomed(1, 0), 1);
        due("doomed(2, 0), neither ASKED", fork.doomed(2, 0), 0);
        for (int n = 0; n < 3; n++) due("doomed(" + n + ", 1)", fork.doomed(n, 1), 0);
        fork.known(0, 3);
        due("doomed(0, 1), just KNOWN in time", fork.doomed(0, 1), 0);
        due("doomed(1, 1), KNOWN too late", fork.doomed(1, 1), 1);
        KeptPromises lost = made("do 1 from 0 to 0", "do 1 from 0 to 5", "do 1 from 0 to 5", "do 1 from 0 to 5");
        lost.swap(2, 0);
        lost.work(2);
        due("doomed(0, 0) of a LOST one", lost.doomed(0, 0), 1);
        due("doomed(1, 0) of one that is done", lost.doomed(1, 0), 0);
        due("doomed(2, 0) after a LOST one", lost.doomed(2, 0), 1);
        due("doomed(3, 0) beside a LOST one", lost.doomed(3, 0), 0);
        KeptPromises over = made(both(with("do 1 from 0 to 5", "do 1 from 0 to 5 if 0=1"), x -> x.work(1), idle(11)));
        due("doomed(0, 0) when all is over", over.doomed(0, 0), 0);
        due("doomed(1, 1) when all is over", over.doomed(1, 1), 0);
    }

    private static final String WORK = "do 1 from 0 to 11";

    /** Six works of which each is after the one told. */
    private static KeptPromises after(int... others) {
        KeptPromises x = made(WORK, WORK, WORK, WORK, WORK, WORK);
        for (int n = 0; n < 6; n++) x.swap(n, others[n]);
        return x;
    }

    private static void rings() {
        of(-3, "RINGS can't be (a WORK is after an earlier one), but by SWAP: a WORK may be told to be after any other one, or none: "
            + "RING: the WORKS that are after themselves in the end");
        due("ring() without PROMISES", made(NEW).ring(), 0);
        due("ring() of what was read", made(WORK, WORK + " after 0", WORK + " after 1", WORK + " after 0").ring(), 0);
        due("ring() of none", after(-1, -1, -1, -1, -1, -1).ring(), 0);
        due("ring() of a chain", after(-1, 0, 1, 2, 3, 4).ring(), 0);
        due("ring() of six", after(5, 0, 1, 2, 3, 4).ring(), 63);
        due("ring() of six the other way about", after(1, 2, 3, 4, 5, 0).ring(), 63);
        due("ring() of two", after(1, 0, -1, -1, -1, -1).ring(), 3);
        due("ring() of the last two", after(-1, -1, -1, -1, 5, 4).ring(), 48);
        due("ring() with others that lead to it", after(1, 0, 0, 2, 1, 4).ring(), 3);
        due("ring() with others that lead to it", after(1, 2, 3, 4, 5, 4).ring(), 48);
        due("ring() of three twos", after(3, 5, 4, 0, 2, 1).ring(), 63);
        due("ring() of a two and a three", after(1, 0, 3, 4, 2, 2).ring(), 31);
        KeptPromises x = after(1, 2, 0, -1, -1, -1);
        x.swap(1, -1);
        due("ring() that is opened", x.ring(), 0);
        x.swap(1, 3);
        due("ring() that leads elsewhere", x.ring(), 0);
        KeptPromises y = made("free from 0 to 0", "do 1 from 0 to 11", "never 1 from 0 to 0", "again 6 from 0 to 11",
            "free from 0 to 0", "whole 1 from 0 to 11", "do 1 from 0 to 1", "do 1 from 0 to 1", "once 1 from 0 to 1 if 0=1");
        y.swap(1, 8);
        y.swap(8, 1);
        due("ring() of the last of nine", y.ring(), 256 + 2);
    }

    private static void ringsAreNotOpen() {
        of(-3, "such are never OPEN");
        KeptPromises x = made("do 1 from 0 to 3", "do 1 from 0 to 3", "do 1 from 0 to 3 if 0=1");
        x.work(1);
        x.swap(1, 0);
        due("can(0) after one that is done", x.can(0), 1);
        x.swap(0, 1);
        due("ring()", x.ring(), 3);
        due("can(0) in a RING with one that is done", x.can(0), 0);
        due("work(2) in a RING", x.work(2), -6);
        due("doomed(1, 0) in a RING", x.doomed(1, 0), 1);
        ints(x, 0, 0, 1, 2);
        due("judge in a RING", x.judge(0, 0), 11);
        x.swap(0, 2);
        due("work(2) out of it", x.work(2), 0);
        KeptPromises y = after(1, 0, 0, -1, -1, -1);
        for (int n = 0; n < 6; n++) due("doomed(" + n + ", 0)", y.doomed(n, 0), n < 3 ? 1 : 0);
        KeptPromises unasked = made("do 1 from 0 to 3 if 0=1", "do 1 from 0 to 3 if 0=1");
        unasked.swap(0, 1);
        unasked.swap(1, 0);
        due("can(0) of a RING that isn't ASKED", unasked.can(0), 1);
        due("can(1) of one that is", unasked.can(1), 0);
    }

    private static void openings() {
        of(-3, "OPENING: the fewest WORKS whose after would have to go so that there is no RING");
        due("opening() without PROMISES", made(NEW).opening(), 0);
        due("opening() of a chain", after(-1, 0, 1, 2, 3, 4).opening(), 0);
        due("opening() of six", after(5, 0, 1, 2, 3, 4).opening(), 1);
        due("opening() of two", after(-1, -1, -1, -1, 5, 4).opening(), 1);
        due("opening() with others that lead to it", after(1, 0, 0, 2, 1, 4).opening(), 1);
        due("opening() of two twos", after(1, 0, 3, 2, 3, 0).opening(), 2);
        due("opening() of a two and a three", after(1, 0, 3, 4, 2, 2).opening(), 2);
        due("opening() of two threes", after(2, 3, 4, 5, 0, 1).opening(), 2);
        due("opening() of three twos", after(3, 5, 4, 0, 2, 1).opening(), 3);
    }

    // ---- rows of hours told by hand

    private static void told(Making first, int outcome, int[] sets, int clash, int lost) {
        KeptPromises x = made(first);
        ints(x, 0, sets);
        due("judge(0, " + outcome + ")", x.judge(0, outcome), clash);
        due("lost(0, " + outcome + ")", x.lost(0, outcome), lost);
    }

    private static int[] sets(int... sets) {
        return sets;
    }

    private static void byHand() {
        of(-3, "A ROW of HOURS told by hand (from HOUR 0 on, all as at first, by an OUTCOME; element h: the set of HOUR h, "
            + "missing ones 0)");
        Making two = with("do 2 from 0 to 3", "whole 2 from 2 to 11 if 1=1", "do 1 from 11 to 11");
        int[] twelve = {1, 0, 2, 2, 0, 0, 0, 0, 0, 0, 0, 4};
        told(two, 0, sets(), -1, 5);
        told(two, 2, sets(), -1, 7);
        told(two, 2, sets(1), -1, 7);
        told(two, 2, sets(1, 1), -1, 6);
        told(two, 2, sets(1, 1, 2, 2), -1, 4);
        told(two, 2, sets(1, 1, 2), -1, 6);
        told(two, 2, twelve, -1, 1);
        told(two, 0, twelve, 21, 1);
        int[] more = new int[60];
        System.arraycopy(twelve, 0, more, 0, 12);
        java.util.Arrays.fill(more, 12, 60, 511);
        told(two, 2, more, -1, 1);
        Making later = both(two, x -> x.work(1), x -> x.work(1), x -> x.turn(1, 1), idle(10));
        told(later, 2, sets(), -1, 7);
        told(later, 2, sets(1, 1, 2, 2), -1, 4);
        Making lost = both(with("do 1 from 0 to 0 owe 40 for 2", "do 1 from 0 to 5"), x -> x.work(2), x -> x.mend(0, 0));
        told(lost, 0, sets(1, 2), -1, 0);
        KeptPromises x = made(lost);
        x.row(0, 0, 0);
        due("owed(0, 0, 2) as mended", x.owed(0, 0, 2), 20);
        due("status(3) as ahead", x.status(3), 1);
        due("promiseOf(1, 10) as ahead", x.promiseOf(1, 10), 0);
        of(-3, "(As ints: of longs the lowest 32 bits.)");
        x = made(two);
        x.row(0, 3, 12);
        for (int i = 0; i < 12; i++) x.set(0, i, twelve[i] + ((long) i - 5 << 32));
        due("judge(0, 2) of longs", x.judge(0, 2), -1);
        due("lost(0, 2) of longs", x.lost(0, 2), 1);
        x.set(0, 4, 1L << 31);
        due("judge(0, 2) of longs", x.judge(0, 2), 41);
    }

    private static void whys() {
        of(-3, "element h: the set of HOUR h, missing ones 0): CLASH: the first HOUR whose set MAY not be done, with why: 1 one that is no WORK or isn't OPEN, 2 HANDS, "
            + "3 a THING twice, 4 FREE, 5 NEVER (the least that holds");
        for (int h : new int[] {0, 3, 11}) {
            Making all = with("do 1 from 0 to 11 with 0", "do 1 from 0 to 11 with 0", "do 1 from 0 to 11 with 1",
                "do 1 from 0 to 11 with 1 if 0=1", "free from " + h + " to " + h + " if 1=1", "never 0 from " + h + " to " + h,
                "never 1 from " + h + " to " + h + " if 2=1");
            // Set, outcome, hands, why.
            int[][] rows = {{1 + 2 + 8, 6, 1, 1}, {8, 6, 0, 1}, {16, 6, 0, 1}, {1 + 128, 6, 2, 1}, {1 + 32, 6, 2, 1},
                {1 + 2, 6, 1, 2}, {1, 6, 0, 2}, {1 + 2 + 4, 6, 2, 2}, {1 + 2, 6, 2, 3}, {4 + 8, 7, 2, 3}, {1 + 2, 0, 2, 3},
                {1 + 4, 6, 2, 4}, {1, 2, 1, 4}, {4, 2, 1, 4}, {4, 7, 1, 4}, {1, 0, 1, 5}, {1 + 4, 4, 2, 5}, {4, 4, 1, 5},
                {4, 0, 1, -1}, {0, 7, 0, -1}};
            for (int[] r : rows) {
                KeptPromises x = made(all);
                x.hands(h, r[2]);
                int[] sets = new int[h + 1];
                sets[h] = r[0];
                ints(x, 0, sets);
                due("judge of " + r[0] + " in HOUR " + h + " by " + r[1] + " with " + r[2] + " HANDS", x.judge(0, r[1]),
                    r[3] < 0 ? -1 : 10 * h + r[3]);
            }
        }
        KeptPromises x = made("do 1 from 0 to 11", "do 1 from 0 to 0", "free from 1 to 1");
        ints(x, 0, 3, 1, 2);
        due("judge of three CLASHES", x.judge(0, 0), 2);
        ints(x, 0, 0, 1, 2);
        due("judge of two CLASHES", x.judge(0, 0), 14);
        ints(x, 0, 0, 0, 2);
        due("judge of one CLASH", x.judge(0, 0), 21);
    }

    private static void lostByHand() {
        of(-3, "there nothing is done)");
        Making two = with("do 1 from 0 to 1 owe 3 for 1", "do 1 from 0 to 2 owe 4 for 1");
        told(two, 0, sets(3), 2, 3);
        told(two, 0, sets(3, 1, 2), 2, 0);
        told(two, 0, sets(1 + 4, 1, 2), 1, 0);
        told(two, 0, sets(1, 1 + 2, 2), 11, 0);
        of(-3, "LOST ones and OWED in the end (a CLASH in an HOUR: as if nothing were done in it)");
        told(with("whole 2 from 0 to 5", "do 1 from 0 to 5"), 0, sets(1, 3, 1), 12, 3);
        told(with("whole 2 from 0 to 5", "do 1 from 0 to 5"), 0, sets(3, 1, 1), 2, 2);
        told(with("again 2 from 0 to 3", "do 1 from 1 to 1"), 0, sets(0, 3, 1), 12, 3);
        KeptPromises x = made(two);
        ints(x, 0, 3, 2);
        due("owed(0, 0, 1) with a CLASH", x.owed(0, 0, 1), 3);
        ints(x, 0, 3);
        due("owed(0, 0, 1) with a CLASH", x.owed(0, 0, 1), 7);
        due("owed(0, 0, 0)", x.owed(0, 0, 0), 0);
        of(-3, "FREE, NEVER ones of CLASHES are LOST, too");
        Making some = with("do 1 from 0 to 5 with 1", "free from 0 to 0 owe 1", "free from 0 to 1 owe 2", "never 1 from 3 to 3 owe 4",
            "do 1 from 0 to 5 with 2");
        told(some, 0, sets(1, 0, 1, 16), 4, 6);
        told(some, 0, sets(0, 1, 1, 16), 14, 4);
        told(some, 0, sets(0, 0, 16, 1, 1), 35, 8);
        told(some, 0, sets(1, 16, 16, 1, 1), 4, 14);
        told(some, 0, sets(0, 0, 1, 16), -1, 0);
        told(some, 0, sets(17, 0, 1, 16), 2, 0);
        told(some, 0, sets(2, 0, 1, 16), 1, 0);
        told(with("do 1 from 0 to 5 with 1", "free from 0 to 0 if 0=1", "never 1 from 0 to 0 if 1=1"), 0, sets(1), -1, 0);
        told(with("do 1 from 0 to 5 with 1", "free from 0 to 0 if 0=1", "never 1 from 0 to 0 if 1=1"), 1, sets(1, 1), 4, 2);
        told(with("do 1 from 0 to 5 with 1", "free from 0 to 0 if 0=1", "never 1 from 0 to 0 if 1=1"), 2, sets(1, 1), 5, 4);
        KeptPromises y = made(some);
        ints(y, 0, 1, 16, 16, 1, 1);
        due("owed(0, 0, 0) of FREE and NEVER ones", y.owed(0, 0, 0), 7);
    }

    // ---- acts

    private static int needs(int kind, int m, int x) {
        return kind == 4 ? -((x + m) * 3) : kind <= 3 ? (x + m) * 3 : x + m;
    }

    private static int costs(int kind, int m, int k, int x) {
        int two = needs(kind, m, x) * 2;
        return kind == 2 ? two + k : kind == 6 ? two ^ 5 : two;
    }

    private static int ends(int kind, int m, int k, int x) {
        if (kind == 3) return costs(kind, m, k, x + 1) ^ needs(kind, m, x + 1 - k);
        int own = costs(kind, m, k, x) ^ needs(kind, m, x - k);
        return kind == 5 ? own - m : own;
    }

    private static void actsWrap() {
        of(-3, "ACTS of PROMISES, with x (wrapping): 0 needs, 1 costs, 2 ends; m its number, k its OWED");
        Making nine = with("do 1 from 0 to 3 owe 99", "whole 1 from 0 to 3 owe 7", "again 4 from 0 to 3 owe 1",
            "once 1 from 0 to 3 if 0=0 owe 2", "never 1 from 0 to 3 owe 99", "free from 0 to 3", "free from 0 to 3 owe 50",
            "do 1 from 0 to 0", "whole 1 from 0 to 0 owe 99");
        int[] kinds = {1, 2, 3, 4, 5, 6, 6, 1, 2};
        int[] owed = {99, 7, 1, 2, 99, 0, 50, 0, 99};
        int third = MOST / 3;
        int[] xs = {0, 1, -1, MOST, MOST - 1, MOST - 8, LEAST, LEAST + 1, LEAST + 98, third, third + 1, -third, 1 << 30, -8, 98};
        for (int m = 0; m < 9; m++) {
            KeptPromises one = made(nine);
            for (int x : xs) {
                due("act(" + m + ", 0, " + x + ")", one.act(m, 0, x), needs(kinds[m], m, x));
                due("act(" + m + ", 1, " + x + ")", one.act(m, 1, x), costs(kinds[m], m, owed[m], x));
                due("act(" + m + ", 2, " + x + ")", one.act(m, 2, x), ends(kinds[m], m, owed[m], x));
            }
        }
        KeptPromises all = made(nine);
        due("act(8, 0, most)", all.act(8, 0, MOST), (LEAST + 7) * 3);
        due("act(5, 0, most)", all.act(5, 0, MOST), LEAST + 4);
        due("act(3, 0, so that needs is least)", made("once 1 from 0 to 0 if 0=0").act(0, 0, LEAST), LEAST);
        KeptPromises mended = made("whole 1 from 0 to 0 owe 9");
        mended.work(0);
        mended.mend(0, 1);
        due("act(0, 1, 1) with OWED as mended", mended.act(0, 1, 1), 6 + 18);
    }

    private static void ran(int promise, int act, int... bodies) {
        KeptPromises x = made("do 1 from 0 to 3 owe 4", "whole 1 from 0 to 3 owe 9", "again 2 from 0 to 3 owe 2",
            "once 1 from 0 to 3 if 0=1 owe 1", "never 0 from 0 to 1 owe 3", "free from 0 to 1 owe 8");
        x.act(3, 2, 1);
        x.act(promise, act, 5);
        for (int i = 0; i < 21; i++) {
            due("trace(" + i + ") of act(" + promise + ", " + act + ", 5)", x.trace(i), i < bodies.length ? bodies[i] : -1);
        }
        due("status(5) of act(" + promise + ", " + act + ", 5)", x.status(5), bodies.length);
    }

    private static void bodies() {
        of(-3, "BODIES, each with its number: PROMISE: 10 needs: x + m. 11 costs: needs(x) * 2. 12 ends: costs(x) ^ needs(x - k). "
            + "ACT: 20 needs: super.needs(x) * 3. WHOLE: 30 costs: super.costs(x) + k. AGAIN: 40 ends: super.ends(x + 1). "
            + "ONCE: 50 needs: -super.needs(x). NEVER: 60 ends: super.ends(x) - m. FREE: 70 costs: super.costs(x) ^ 5. "
            + "needs(..) and so on: the body of the PROMISE's KIND, or of the next KIND above that has one; super: from the KIND "
            + "above the body's on");
        of(-3, "THE TRACE: the numbers of the bodies that ran in the latest act(), in the order in which they began; the first 20 "
            + "are kept");
        ran(0, 0, 20, 10);
        ran(0, 1, 11, 20, 10);
        ran(0, 2, 12, 11, 20, 10, 20, 10);
        ran(1, 0, 20, 10);
        ran(1, 1, 30, 11, 20, 10);
        ran(1, 2, 12, 30, 11, 20, 10, 20, 10);
        ran(2, 0, 20, 10);
        ran(2, 1, 11, 20, 10);
        ran(2, 2, 40, 12, 11, 20, 10, 20, 10);
        ran(3, 0, 50, 20, 10);
        ran(3, 1, 11, 50, 20, 10);
        ran(3, 2, 12, 11, 50, 20, 10, 50, 20, 10);
        ran(4, 0, 10);
        ran(4, 1, 11, 10);
        ran(4, 2, 60, 12, 11, 10, 10);
        ran(5, 0, 10);
        ran(5, 1, 70, 11, 10);
        ran(5, 2, 12, 70, 11, 10, 10);
        ran(6, 0);
        ran(0, 3);
    }

    // ---- shelves and refusals

    private static void shelves() {
        of(-3, "SHELVES 0 to 7 hold NOTHING (at first), a ROW, or a PROMISE");
        KeptPromises x = made("do 1 from 0 to 1");
        for (int s = 0; s < 7; s++) due("holds(" + s + ") at first", x.holds(s), -1);
        for (int s = 0; s < 8; s++) {
            due("row(" + s + ", 1, 2)", x.row(s, 1, 2), 1);
            due("holds(" + s + ")", x.holds(s), 101);
            due("put(" + s + ", 0)", x.put(s, 0), 1);
            due("holds(" + s + ")", x.holds(s), 0);
            due("put(" + s + ", NONE)", x.put(s, -1), 0);
            due("holds(" + s + ")", x.holds(s), -1);
        }
        due("row(8, 1, 2)", x.row(8, 1, 2), -1);
        due("row(-1, 1, 2)", x.row(-1, 1, 2), -1);
        of(-3, "A ROW has a SORT (0 bytes, 1 shorts, 2 ints, 3 longs) and 0 to 60 elements, 0 at first; what is put in keeps its "
            + "lowest bits");
        long v = 0x8123_4567_89ab_cdefL;
        long[] kept = {(byte) 0xef, (short) 0xcdef, 0x89abcdef, v};
        for (int sort = 0; sort < 4; sort++) {
            for (int n = 0; n <= 60; n += 15) {
                KeptPromises y = made(NEW);
                due("row(0, " + sort + ", " + n + ")", y.row(0, sort, n), 1);
                due("its size", sizeOf(y, 0), n);
                for (int i = 0; i < n; i++) due("element(0, " + i + ") at first", y.element(0, i), 0);
                if (n > 0) due("set(0, " + (n - 1) + ", v)", y.set(0, n - 1, v), 1);
                due("element(0, " + (n - 1) + ")", y.element(0, n - 1), n > 0 ? kept[sort] : 0);
            }
            due("row(1, " + sort + ", 61)", x.row(1, sort, 61), -7);
            due("row(1, " + sort + ", -1)", x.row(1, sort, -1), -4);
        }
        due("row(1, 4, 0)", x.row(1, 4, 0), -6);
        due("row(1, -1, 0)", x.row(1, -1, 0), -6);
    }

    private static final Making SOME = both(with("do 1 from 0 to 11 owe 3", "free from 0 to 1 owe 4"), x -> {
        ints(x, 0, 1, 2, 3);
        x.row(1, 0, 2);
        x.put(2, 0);
        x.put(3, 1);
        x.act(1, 2, 9);
        x.image();
        x.work(0);
        x.turn(1, 0);
    });

    private static void refusals() {
        of(-3, "REFUSALS (the call answers the number; nothing changes but how many there were; the first that fits, in this order): "
            + "-1 NOBODY: no such SHELF, PROMISE, FORK, HOUR, one of the PEOPLE, KIND");
        refused(SOME, "no SHELF: set(8, 9, 1)", x -> x.set(8, 9, 1), -1);
        refused(SOME, "no SHELF: copy(2, 8, 0, 0, -1)", x -> x.copy(2, 8, 0, 0, -1), -1);
        refused(SOME, "no PROMISE: put(0, 2)", x -> x.put(0, 2), -1);
        refused(SOME, "no PROMISE: mend(2, 3)", x -> x.mend(2, 3), -1);
        refused(SOME, "no FORK: turn(3, 2)", x -> x.turn(3, 2), -1);
        refused(SOME, "no HOUR: hands(12, 3)", x -> x.hands(12, 3), -1);
        refused(SOME, "no HOUR: known(0, 12)", x -> x.known(0, 12), -1);
        refused(SOME, "none of the PEOPLE: debt(6)", x -> x.debt(6), -1);
        refused(SOME, "none of the PEOPLE: owed(2, 9, 6)", x -> x.owed(2, 9, 6), -1);
        refused(SOME, "no KIND: says(0, 7)", x -> x.says(0, 7), -1);
        of(-3, "-2 OTHER: a SHELF that holds a PROMISE where a ROW is wanted, or the other way about, ROWS of two SORTS, a PROMISE "
            + "that isn't of the KIND wanted, or one under it");
        refused(SOME, "a PROMISE for a ROW: set(2, 9, 1)", x -> x.set(2, 9, 1), -2);
        refused(SOME, "a PROMISE for a ROW: judge(2, 9)", x -> x.judge(2, 9), -12);
        refused(SOME, "a PROMISE for a ROW: copy(4, 2, 0, 0, -1)", x -> x.copy(4, 2, 0, 0, -1), -2);
        refused(SOME, "a ROW for a PROMISE: says(0, 1)", x -> x.says(0, 1), -2);
        refused(SOME, "two SORTS: copy(0, 1, 9, 9, -1)", x -> x.copy(0, 1, 9, 9, -1), -2);
        refused(SOME, "another KIND: says(2, 2)", x -> x.says(2, 2), -2);
        refused(SOME, "another KIND: says(3, 1)", x -> x.says(3, 1), -2);
        of(-3, "-3 NOTHING: a SHELF that holds NOTHING");
        refused(SOME, "NOTHING: set(4, 9, 1)", x -> x.set(4, 9, 1), -3);
        refused(SOME, "NOTHING: copy(4, 0, 9, 9, -1)", x -> x.copy(4, 0, 9, 9, -1), -3);
        refused(SOME, "NOTHING: says(4, 2)", x -> x.says(4, 2), -3);
        refused(SOME, "NOTHING: give(4)", x -> x.give(4), -3);
        refused(SOME, "NOTHING: lost(4, 9)", x -> x.lost(4, 9), -3);
        of(-3, "-4 BELOW: a size below 0");
        refused(SOME, "a size: row(0, 9, -1)", x -> x.row(0, 9, -1), -4);
        refused(SOME, "a size: copy(0, 0, 9, 9, -1)", x -> x.copy(0, 0, 9, 9, -1), -4);
        of(-3, "-5 BEYOND: an element that isn't there; nothing such to be told of");
        refused(SOME, "no element: set(0, 3, 1)", x -> x.set(0, 3, 1), -5);
        refused(SOME, "no elements: copy(0, 0, 0, 1, 3)", x -> x.copy(0, 0, 0, 1, 3), -5);
        refused(SOME, "nothing such: promiseOf(2, 0)", x -> x.promiseOf(2, 0), -5);
        refused(SOME, "nothing such: hour(0, 0)", x -> x.hour(0, 0), -5);
        refused(SOME, "nothing such: ends(1, 0)", x -> x.ends(1, 0), -5);
        refused(SOME, "nothing such: must(8)", x -> x.must(8), -5);
    }

    private static void refusalsOfWrongOnes() {
        of(-3, "-6 WRONG: a number that may not be, a FAULT, what can't be as things stand");
        refused(SOME, "a number: row(0, 4, 61)", x -> x.row(0, 4, 61), -6);
        refused(SOME, "a number: hands(0, 3)", x -> x.hands(0, 3), -6);
        refused(SOME, "a number: can(8)", x -> x.can(8), -6);
        refused(SOME, "a number: spare(-1)", x -> x.spare(-1), -1000);
        refused(SOME, "a FAULT: promise(0)", x -> x.promise(0), -6, 0);
        refused(SOME, "as things stand: swap(0, 0)", x -> x.swap(0, 0), -16);
        refused(SOME, "as things stand: work(1) in a FREE HOUR", x -> x.work(1), -6);
        refused(SOME, "as things stand: mend(0, 0) of one that isn't LOST", x -> x.mend(0, 0), -6);
        refused(SOME, "as things stand: turn(0, 1) too late", x -> x.turn(0, 1), -6);
        refused(NEW, "as things stand: restore() without THE IMAGE", x -> x.restore(), -6);
        of(-3, "-7 ROOM: more than may be");
        refused(SOME, "a size: row(0, 3, 61)", x -> x.row(0, 3, 61), -7);
        Making full = both(SOME, with("free from 1 to 1", "free from 1 to 1"), x -> Texts.write(x, 0, 0, "never 0 from 1 to 1"));
        refused(full, "a fourth: promise(0)", x -> x.promise(0), -7, -1);
        refused(full, "a fourth: give(0)", x -> x.give(0), -7, -1);
        quiet(full, "many(0) of none for which there is ROOM", x -> x.many(0), 0);
        of(-3, "nothing changes but how many there were");
        KeptPromises x = made(SOME);
        for (int k = 0; k < 300; k++) x.debt(6);
        due("status(11) after 300 REFUSALS", x.status(11), 300);
        due("status(12) after 300 REFUSALS", x.status(12), 0);
    }
}
