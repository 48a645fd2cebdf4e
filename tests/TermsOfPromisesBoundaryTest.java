import java.io.IOException;

/** The boundary cases of the Terms, part 1: numbers and their ends, how rows of letters are read. */
public final class TermsOfPromisesBoundaryTest extends Bounds {
    private static final Making WORK_0 = with("do 1 from 0 to 11");

    public static void main(String[] args) throws IOException {
        hoursAndNow();
        handsOfHours();
        thingsAndPeople();
        forks();
        numbersAndKinds();
        howMany();
        letterByLetter();
        extras();
        heads();
        hoursFromTo();
        lengths();
        spans();
        onceNeverFree();
        numbers();
        faultsOfNumbers();
        sorts();
        end("TermsOfPromisesBoundaryTest", -1, -1);
    }

    private static void hoursAndNow() {
        of(-1, "HOURS are 0 to 11");
        KeptPromises x = made(NEW);
        due("hands(0, 1)", x.hands(0, 1), 1);
        due("hands(11, 1)", x.hands(11, 1), 1);
        due("hands(-1, 1)", x.hands(-1, 1), -1);
        due("hands(12, 1)", x.hands(12, 1), -1);
        due("hour(0, 11)", x.hour(0, 11), 0);
        due("hour(0, 12)", x.hour(0, 12), -5);
        of(-1, "NOW is one of them, or 12 (all is over); 0 at first");
        for (int now = 0; now <= 12; now++) {
            KeptPromises y = made(idle(now));
            due("status(3) after " + now + " HOURS", y.status(3), now);
            due("work(0) in NOW " + now, y.work(0), now < 12 ? 0 : -6);
            due("status(3) after it", y.status(3), Math.min(now + 1, 12));
        }
    }

    private static void handsOfHours() {
        of(-1, "In each HOUR there are HANDS (0 to 2; 1 at first)");
        for (int h = 0; h < 12; h++) {
            String work = "do 1 from " + h + " to " + h;
            for (int n = -1; n <= 3; n++) {
                KeptPromises x = made(both(with(work, work, work), idle(h)));
                if (n >= 0) due("hands(" + h + ", " + n + ")", x.hands(h, n), n <= 2 ? 1 : -6);
                int most = n < 0 || n > 2 ? 1 : n;
                due("work of three with " + most + " HANDS", x.work(7), -6);
                if (most < 2) due("work of two with " + most + " HANDS", x.work(3), -6);
                if (most < 1) due("work of one with no HANDS", x.work(1), -6);
                due("work of as many as HANDS", x.work((1 << most) - 1), 7 & -(1 << most));
            }
        }
    }

    private static void thingsAndPeople() {
        of(-1, "THINGS are 0 to 3, PEOPLE 0 to 5");
        oneDigit(NEW, "do 1 from 0 to 1 with ", "", 0, 3);
        oneDigit(NEW, "never ", " from 0 to 1", 0, 3);
        oneDigit(NEW, "do 1 from 0 to 1 for ", "", 0, 5);
        KeptPromises x = made("do 1 from 0 to 1 for 5", "do 1 from 0 to 1 with 3");
        due("promiseOf(0, 8)", x.promiseOf(0, 8), 5);
        due("promiseOf(1, 3)", x.promiseOf(1, 3), 3);
        due("debt(0)", x.debt(0), 0);
        due("debt(5)", x.debt(5), 0);
        due("debt(6)", x.debt(6), -1);
        due("debt(-1)", x.debt(-1), -1);
    }

    private static void forks() {
        of(-1, "FORKS 0 to 2 turn out 0 or 1, each KNOWN from an HOUR on (0 to 11; 0 at first)");
        oneDigit(NEW, "do 1 from 0 to 1 if ", "=0", 0, 2);
        oneDigit(NEW, "do 1 from 0 to 1 if 2=", "", 0, 1);
        KeptPromises x = made(NEW);
        for (int f = 0; f < 3; f++) due("known(" + f + ", 11) at first", x.known(f, 11), 0);
        due("known(2, 0)", x.known(2, 0), 11);
        due("known(3, 0)", x.known(3, 0), -1);
        due("known(0, 12)", x.known(0, 12), -1);
        due("turn(2, 1)", x.turn(2, 1), 0);
        due("turn(2, 2)", x.turn(2, 2), -6);
        of(-1, "an OUTCOME is bits: bit f how FORK f turns out");
        for (int f = 0; f < 3; f++) {
            for (int v = 0; v < 2; v++) {
                KeptPromises y = made("do 2 from 0 to 5 if " + f + "=" + v);
                for (int o = 0; o < 8; o++) {
                    boolean so = (o & 1 << f) != 0 == (v == 1);
                    due("spare(" + o + ") if " + f + "=" + v, y.spare(o), so ? 10 : 12);
                }
            }
        }
        of(-1, "TURNED: how they truly do (0 at first)");
        due("status(4) at first", made(NEW).status(4), 0);
        for (int bits = 0; bits < 8; bits++) {
            KeptPromises y = made("do 1 from 0 to 0 if 0=1", "do 1 from 0 to 0 if 1=1", "do 1 from 0 to 0 if 2=1");
            for (int f = 0; f < 3; f++) due("turn at first", y.turn(f, bits >> f & 1), 0);
            due("status(4)", y.status(4), bits);
            due("work(0) by TURNED " + bits, y.work(0), bits);
        }
    }

    private static void numbersAndKinds() {
        of(-1, "PROMISES have numbers, from 0 on, 9 at most, each of a KIND: 1 ACT, 5 NEVER, 6 FREE, each under 0 PROMISE; "
            + "2 WHOLE, 3 AGAIN, 4 ONCE, each under ACT");
        String[] texts = {"do 1 from 0 to 1", "whole 1 from 0 to 1", "again 1 from 0 to 1", "once 1 from 0 to 1 if 0=0",
            "never 0 from 0 to 1", "free from 0 to 1", "do 1 from 0 to 1", "do 1 from 0 to 1", "free from 0 to 1"};
        KeptPromises x = made(texts);
        for (int n = 0; n < 6; n++) {
            due("KIND of " + texts[n], x.promiseOf(n, 0), n + 1);
            x.put(0, n);
            due("says(0, 0) of " + texts[n], x.says(0, 0), 0);
            due("says(0, 1) of " + texts[n], x.says(0, 1), n == 2 ? 2 : n < 4 ? 1 : -2);
        }
        due("promiseOf(8, 0)", x.promiseOf(8, 0), 6);
        for (String text : texts) due("a tenth: " + text, Texts.promise(x, text), -7);
        due("status(0)", x.status(0), 9);
    }

    private static void howMany() {
        of(-1, "WORKS: ACT and what is under it, 6 at most; NEVER, FREE 3 at most");
        String[] works = {"do 1 from 0 to 1", "whole 1 from 0 to 1", "again 1 from 0 to 1", "once 1 from 0 to 1 if 0=0"};
        String[] others = {"never 0 from 0 to 1", "free from 0 to 1"};
        KeptPromises x = made(NEW);
        for (int n = 0; n < 6; n++) due("WORK " + n, Texts.promise(x, works[n * 3 % 4]), n);
        due("status(1)", x.status(1), 6);
        for (String w : works) due("a seventh WORK: " + w, Texts.promise(x, w), -7);
        for (int n = 0; n < 3; n++) due("NEVER or FREE " + n, Texts.promise(x, others[n % 2]), 6 + n);
        for (String o : others) due("a fourth one: " + o, Texts.promise(x, o), -7);
        KeptPromises y = made(NEW);
        for (int n = 0; n < 3; n++) due("NEVER or FREE " + n, Texts.promise(y, others[(n + 1) % 2]), n);
        for (String o : others) due("a fourth one: " + o, Texts.promise(y, o), -7);
        due("status(1)", y.status(1), 0);
        for (int n = 0; n < 6; n++) due("WORK " + n, Texts.promise(y, works[n % 4]), 3 + n);
        for (String w : works) due("a seventh WORK: " + w, Texts.promise(y, w), -7);
    }

    // ---- reading

    /** The marks tell where the text may end (it may at its end, too); for 5 or the like is the last one. */
    private static void spoilt(String marked) {
        String text = marked.replace("|", "");
        boolean[] mayEnd = new boolean[text.length() + 1];
        int at = 0;
        for (char c : marked.toCharArray()) {
            if (c == '|') mayEnd[at] = true;
            else at++;
        }
        mayEnd[text.length()] = true;
        for (int n = 0; n <= text.length(); n++) {
            if (mayEnd[n]) fine(WORK_0, text.substring(0, n));
            else fault(WORK_0, text.substring(0, n), n);
        }
        for (int n = 0; n < text.length(); n++) {
            char c = text.charAt(n);
            String ahead = text.substring(0, n);
            String later = text.substring(n + 1);
            for (char odd : new char[] {'#', '\0', '/', ':', 'z', 'F'}) fault(WORK_0, ahead + odd + later, n);
            if (c == ' ') fault(WORK_0, ahead + later, n);
            if (c == ' ') fault(WORK_0, ahead + "  " + later, n + 1);
            if (Character.isLetter(c)) fault(WORK_0, ahead + Character.toUpperCase(c) + later, n);
            if (Character.isLetter(c)) fault(WORK_0, ahead + ' ' + later, n);
            if (Character.isLetter(c) && n <= 48) fault(WORK_0, ahead + " from 0 to 1", n);
        }
        fault(WORK_0, text + " ", text.length());
        fault(WORK_0, text + "#", text.length());
        fault(WORK_0, " " + text, 0);
    }

    private static void letterByLetter() {
        of(-1, "A PROMISE is read from a ROW of letters: HEAD, a blank, from, a blank, HOUR p, a blank, to, a blank, HOUR q, "
            + "then perhaps, in this order, each with a blank ahead: with T (a THING), after N (a WORK that there is), "
            + "if F = V (FORK, 0 or 1, without blanks), owe N, for W (one of the PEOPLE)");
        of(-1, "between a word and its number one blank");
        of(-1, "The FAULT: the first place at which an element can't stand as PROMISES go on (the number of elements, "
            + "if it ends too early)");
        spoilt("whole 1 from 00 to 1|1| with 3| after 0| if 2=1| owe 9|9| for 5");
        spoilt("do 3 from 7 to 9| after 0| owe 0|7| for 0");
        spoilt("once 3 from 0 to 9 with 0 after 0 if 0=0| owe 0| for 1");
        spoilt("again 6 from 0 to 1|1| if 1=0| for 3");
        spoilt("never 3 from 1 to 1|1| if 1=1| owe 0|5| for 2");
        spoilt("free from 1 to 1|0| if 2=0| for 4");
        fault(WORK_0, "", 0);
        fault(WORK_0, "free from 0 to 1 ", 17);
        fault(WORK_0, "do 1 from 0 to 1 if 0=0 ", 24);
        fault(WORK_0, "do 1 from 0 to 1 if 0 =0", 21);
        fault(WORK_0, "do 1 from 0 to 1 if 0= 0", 22);
        fault(WORK_0, "do 1 from 0 to 1 if 00=0", 21);
        fault(WORK_0, "do from 0 to 1", 3);
        fault(WORK_0, "free 1 from 0 to 1", 5);
        fault(WORK_0, "frfree from 0 to 1", 2);
        fault(WORK_0, "do 1 to 0 from 1", 5);
    }

    private static void extras() {
        of(-1, "then perhaps, in this order, each with a blank ahead: with T (a THING), after N (a WORK that there is), "
            + "if F = V (FORK, 0 or 1, without blanks), owe N, for W (one of the PEOPLE)");
        String[] extra = {" with 1", " after 0", " if 0=1", " owe 1", " for 1"};
        String start = "do 1 from 0 to 5";
        for (int set = 0; set < 32; set++) {
            StringBuilder text = new StringBuilder(start);
            for (int i = 0; i < 5; i++) text.append((set >> i & 1) != 0 ? extra[i] : "");
            fine(WORK_0, text.toString());
        }
        for (int i = 0; i < 5; i++) {
            for (int j = 0; j <= i; j++) {
                int place = start.length() + extra[i].length();
                fault(WORK_0, start + extra[i] + extra[j], i == 4 ? place : place + 1);
            }
        }
        of(-1, "after N (a WORK that there is)");
        Making mixed = with("do 1 from 0 to 1", "free from 0 to 1", "whole 1 from 0 to 1", "never 0 from 0 to 1",
            "again 1 from 0 to 1", "once 1 from 0 to 1 if 0=0");
        boolean[] works = {true, false, true, false, true, true, false, false, false, false};
        for (int n = 0; n < 10; n++) {
            String text = start + " after " + n;
            if (works[n]) fine(mixed, text);
            else fault(mixed, text, 23);
            fault(NEW, text, 23);
        }
        KeptPromises x = made(mixed);
        Texts.promise(x, start + " after 5");
        due("promiseOf(6, 4)", x.promiseOf(6, 4), 5);
    }

    private static void heads() {
        of(-1, "HEAD: do L, whole L, once L (L 1 to 3), again E (E 1 to 6), never T, or free");
        oneDigit(NEW, "do ", " from 0 to 11", 1, 3);
        oneDigit(NEW, "whole ", " from 0 to 11", 1, 3);
        oneDigit(NEW, "once ", " from 0 to 11 if 0=0", 1, 3);
        oneDigit(NEW, "again ", " from 0 to 2", 1, 6);
        oneDigit(NEW, "never ", " from 0 to 11", 0, 3);
        fine(NEW, "free from 0 to 11");
        for (String head : new String[] {"doo 1", "whale 1", "onze 1", "agaim 1", "newer 1", "fred"}) {
            int place = head.startsWith("do") || head.startsWith("wh") || head.startsWith("on") || head.startsWith("ne") ? 2 : 4;
            fault(NEW, head + " from 0 to 11", head.equals("fred") ? 3 : place);
        }
    }

    private static void hoursFromTo() {
        of(-1, "q is no less than p");
        for (int p = 0; p < 12; p++) {
            for (int q = 0; q < 12; q++) {
                for (String head : new String[] {"free", "never 2"}) {
                    String start = head + " from " + p + " to ";
                    if (p <= q) fine(NEW, start + q);
                    else fault(NEW, start + q, start.length());
                }
            }
        }
    }

    private static void lengths() {
        String[] heads = {"do ", "whole ", "once "};
        for (int k = 0; k < 3; k++) {
            for (int l = 1; l <= 3; l++) {
                for (int p = 0; p < 12; p++) {
                    for (int q = p; q < 12; q++) {
                        of(-1, "do, whole, once: there are L HOURS from p to q at least");
                        String start = heads[k] + l + " from " + p + " to ";
                        String text = start + q + (k == 2 ? " if 0=1" : "");
                        if (q - p + 1 < l) {
                            fault(NEW, text, start.length());
                            continue;
                        }
                        KeptPromises x = made(text);
                        of(-1, "LENGTH of a WORK: L");
                        due("LENGTH of " + text, x.promiseOf(0, 9), l);
                        of(-1, "LEFT at first: LENGTH");
                        due("LEFT of " + text, x.promiseOf(0, 10), l);
                    }
                }
            }
        }
    }

    private static void spans() {
        for (int e = 1; e <= 6; e++) {
            for (int p = 0; p < 12; p++) {
                for (int q = p; q < 12; q++) {
                    of(-1, "again: of the spans of E HOURS from p on till q (the last may be shorter) there are 3 at most");
                    int spans = 0;
                    for (int first = p; first <= q; first += e) spans++;
                    String start = "again " + e + " from " + p + " to ";
                    if (spans > 3) {
                        fault(NEW, start + q, start.length());
                        continue;
                    }
                    KeptPromises x = made(start + q);
                    of(-1, "of AGAIN how many spans there are");
                    due("LENGTH of " + start + q, x.promiseOf(0, 9), spans);
                    of(-1, "LEFT at first: LENGTH");
                    due("LEFT of " + start + q, x.promiseOf(0, 10), spans);
                }
            }
        }
    }

    private static void onceNeverFree() {
        of(-1, "once needs its if");
        String once = "once 1 from 0 to 1";
        fine(WORK_0, once + " if 2=1");
        fault(WORK_0, once, 18);
        fault(WORK_0, once + " ", 19);
        fault(WORK_0, once + " owe 1", 19);
        fault(WORK_0, once + " for 1", 19);
        fault(WORK_0, once + " with 1", 25);
        fault(WORK_0, once + " with 1 owe 1", 26);
        fault(WORK_0, once + " after 0", 26);
        fault(WORK_0, once + " after 0 for 1", 27);
        fault(WORK_0, once + " with 1 after 0 owe 1", 34);
        of(-1, "never, free have no with, after");
        for (String head : new String[] {"never 1 from 0 to 1", "free from 0 to 1"}) {
            int place = head.length() + 1;
            fault(WORK_0, head + " with 1", place);
            fault(WORK_0, head + " after 0", place);
            fault(WORK_0, head + " with 1 if 0=1", place);
            fault(WORK_0, head + " ", place);
            fine(WORK_0, head + " if 0=1");
            fine(WORK_0, head + " owe 1");
            fine(WORK_0, head + " for 1");
            fine(WORK_0, head + " if 0=1 owe 1 for 1");
        }
    }

    /** Only the digits from low to high may stand there; and a second digit can't. */
    private static void oneDigit(Making first, String start, String rest, int low, int high) {
        for (int d = 0; d < 10; d++) {
            if (d < low || d > high) {
                fault(first, start + d + rest, start.length());
                fault(first, start + d + "0" + rest, start.length());
            } else {
                fine(first, start + d + rest);
                fault(first, start + d + "0" + rest, start.length() + 1);
            }
        }
        for (String odd : new String[] {"", "-1", "+1", " 1", "/", ":", "x"}) {
            fault(first, start + odd + (odd.isEmpty() ? "" : rest), start.length());
        }
    }

    private static void numbers() {
        of(-1, "NUMBERS: HOURS 1 or 2 digits, owe 0 to 99 (1 or 2 digits), others one digit");
        for (int v = 0; v < 100; v++) {
            String two = String.format("%02d", v);
            String[] told = v < 10 ? new String[] {"" + v, two} : new String[] {two};
            for (String t : told) {
                if (v < 12) {
                    fine(NEW, "free from " + t + " to 11");
                    fine(NEW, "free from 0 to " + t);
                    fault(NEW, "free from " + two + "0 to 11", 12);
                    fault(NEW, "free from 0 to " + two + "0", 17);
                } else {
                    fault(NEW, "free from " + t + " to 11", 10);
                    fault(NEW, "free from 0 to " + t, 15);
                }
                KeptPromises x = made("free from 0 to 0 owe " + t);
                due("OWED of owe " + t, x.promiseOf(0, 7), v);
            }
            fault(NEW, "free from 0 to 0 owe " + two + "0", 23);
            fault(NEW, "free from 0 to 0 owe " + two + "0 for 1", 23);
        }
        oneDigit(NEW, "do 1 from 0 to 11 with ", " for 1", 0, 3);
        oneDigit(WORK_0, "do 1 from 0 to 11 after ", " for 1", 0, 0);
        oneDigit(NEW, "do 1 from 0 to 11 if ", "=1 for 1", 0, 2);
        oneDigit(NEW, "do 1 from 0 to 11 if 0=", " for 1", 0, 1);
        oneDigit(NEW, "do 1 from 0 to 11 for ", "", 0, 5);
        of(-1, "OWED 0, for 0 if not told");
        for (String text : new String[] {"do 1 from 0 to 11", "whole 1 from 0 to 11 with 1", "again 6 from 0 to 11",
            "once 1 from 0 to 11 if 0=1", "never 3 from 0 to 11", "free from 0 to 11 if 1=1"}) {
            KeptPromises x = made("free from 0 to 0 owe 99 for 5", text);
            due("OWED of " + text, x.promiseOf(1, 7), 0);
            due("for whom of " + text, x.promiseOf(1, 8), 0);
            KeptPromises y = made("free from 0 to 0 owe 99 for 5", text + " for 4");
            due("OWED of " + text + " for 4", y.promiseOf(1, 7), 0);
            KeptPromises z = made("free from 0 to 0 owe 99 for 5", text + " owe 4");
            due("for whom of " + text + " owe 4", z.promiseOf(1, 8), 0);
        }
    }

    private static void faultsOfNumbers() {
        of(-1, "of a NUMBER that may not be the place of its first digit");
        fault(NEW, "do 0 from 0 to 1", 3);
        fault(NEW, "do 4 from 0 to 1", 3);
        fault(NEW, "again 7 from 0 to 1", 6);
        fault(NEW, "never 4 from 0 to 1", 6);
        fault(NEW, "free from 12 to 12", 10);
        fault(NEW, "free from 99 to 99", 10);
        fault(NEW, "free from 10 to 9", 16);
        fault(NEW, "free from 11 to 10", 16);
        fault(NEW, "free from 0 to 12", 15);
        fault(NEW, "do 3 from 8 to 9 with 4", 15);
        fault(NEW, "do 3 from 9 to 1", 15);
        fault(NEW, "do 3 from 9 to 1x", 15);
        fault(NEW, "free from 12x", 10);
        fault(NEW, "do 3 from 9 to 10", 15);
        fault(NEW, "again 1 from 8 to 11", 18);
        fault(NEW, "do 1 from 0 to 1 with 9", 22);
        fault(NEW, "do 1 from 0 to 1 after 0", 23);
        fault(NEW, "do 1 from 0 to 1 if 3=0", 20);
        fault(NEW, "do 1 from 0 to 1 if 0=2", 22);
        fault(NEW, "do 1 from 0 to 1 for 6", 21);
    }

    /** A row of any sort is read; a letter is what an element is as an int. */
    private static void sorts() {
        of(-1, "A PROMISE is read from a ROW of letters: HEAD, a blank, from, a blank");
        String text = "again 2 from 0 to 5";
        long[] added = {256, 65536, 1L << 32, 7L << 32};
        for (int sort = 0; sort < 4; sort++) {
            for (int k = 0; k < 4; k++) {
                KeptPromises x = made(NEW);
                x.row(0, sort, text.length());
                for (int i = 0; i < text.length(); i++) x.set(0, i, text.charAt(i) + (i == 9 ? added[k] : 0));
                boolean same = sort == 0 || sort == 1 && k > 0 || k > 1;
                due("promise(0) of SORT " + sort + " with " + added[k] + " more", x.promise(0), same ? 0 : -6);
                due("fault()", x.fault(), same ? -1 : 9);
            }
        }
    }
}
