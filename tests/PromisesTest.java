/** For each promise of the document: ordinary inputs, the edges it names, and wrong inputs. */
public final class PromisesTest {
    private static int calls = 0;
    private static int wrong = 0;
    private static int about = 0;

    private static void due(String call, long got, long want) {
        calls++;
        if (got != want) {
            wrong++;
            System.out.println("promise " + about + ": " + call + " answered " + got + ", due is " + want);
        }
    }

    public static void main(String[] args) {
        newObject();
        rows();
        copies();
        shelves();
        reading();
        faults();
        faultsOfExtras();
        rooms();
        told();
        settings();
        swaps();
        keepings();
        knownForks();
        kinds();
        bearing();
        unsure();
        quarrels();
        owing();
        endsAndMust();
        sparesAndDoomed();
        giving();
        rings();
        byHand();
        whyNot();
        hoursGoBy();
        debts();
        acts();
        images();
        statuses();
        endOfAll();
        System.out.println("PromisesTest: " + calls + " calls, " + wrong + " wrong");
        if (wrong > 0) System.exit(1);
    }

    private static KeptPromises with(String... texts) {
        KeptPromises x = new KeptPromises();
        for (int i = 0; i < texts.length; i++) {
            int n = Texts.promise(x, texts[i]);
            if (n != i) due("promise '" + texts[i] + "'", n, i);
        }
        return x;
    }

    private static void hour(KeptPromises x, int sort, int... sets) {
        x.row(6, sort, sets.length);
        for (int i = 0; i < sets.length; i++) x.set(6, i, sets[i]);
    }

    private static void newObject() {
        about = 1;
        KeptPromises x = new KeptPromises();
        for (int what = 0; what <= 17; what++) {
            due("status(" + what + ")", x.status(what), what >= 6 && what <= 10 ? -1 : 0);
        }
        for (int s = 0; s < 8; s++) due("holds(" + s + ")", x.holds(s), -1);
        due("fault()", x.fault(), -1);
        due("trace(0)", x.trace(0), -1);
        due("all()", x.all(), 1);
        due("begin()", x.begin(), 0);
        due("trap()", x.trap(), -1);
        due("hands(11, 1)", x.hands(11, 1), 1);
        due("known(2, 0)", x.known(2, 0), 0);
        due("NONE", KeptPromises.NONE, -1);
    }

    private static void rows() {
        KeptPromises x = new KeptPromises();
        about = 2;
        due("row(0, 0, 60)", x.row(0, 0, 60), 1);
        due("row(7, 3, 0)", x.row(7, 3, 0), 1);
        due("holds(0)", x.holds(0), 100);
        due("holds(7)", x.holds(7), 103);
        due("row(-1, 9, -1)", x.row(-1, 9, -1), -1);
        due("row(8, 0, 0)", x.row(8, 0, 0), -1);
        due("row(1, 4, -1)", x.row(1, 4, -1), -4);
        due("row(1, 4, 61)", x.row(1, 4, 61), -6);
        due("row(1, -1, 1)", x.row(1, -1, 1), -6);
        due("row(1, 3, 61)", x.row(1, 3, 61), -7);
        due("holds(1)", x.holds(1), -1);
        about = 3;
        due("set(0, 59, 127)", x.set(0, 59, 127), 1);
        due("set(0, 0, 128)", x.set(0, 0, 128), 1);
        due("set(0, 60, 1)", x.set(0, 60, 1), -5);
        due("set(0, -1, 1)", x.set(0, -1, 1), -5);
        due("set(7, 0, 1)", x.set(7, 0, 1), -5);
        due("set(8, 0, 1)", x.set(8, 0, 1), -1);
        due("set(1, 0, 1)", x.set(1, 0, 1), -3);
        Texts.promise(x, "free from 0 to 0");
        x.put(2, 0);
        due("set(2, 0, 1)", x.set(2, 0, 1), -2);
        about = 5;
        due("element(0, 59)", x.element(0, 59), 127);
        due("element(0, 0)", x.element(0, 0), -128);
        due("element(0, 1)", x.element(0, 1), 0);
        due("element(0, 60)", x.element(0, 60), 0);
        due("element(0, -1)", x.element(0, -1), 0);
        due("element(1, 0)", x.element(1, 0), 0);
        due("element(2, 0)", x.element(2, 0), 0);
        due("element(-1, 0)", x.element(-1, 0), 0);
        long[] kept = {(byte) 0x89ABCDEF, (short) 0x89ABCDEF, 0x89ABCDEF, 0x123456789ABCDEFL};
        for (int sort = 0; sort < 4; sort++) {
            x.row(3, sort, 1);
            x.set(3, 0, sort == 3 ? 0x123456789ABCDEFL : 0x1289ABCDEFL);
            due("element of sort " + sort, x.element(3, 0), kept[sort]);
        }
        x.row(0, 0, 60);
        due("element of a new row", x.element(0, 59), 0);
    }

    private static void copies() {
        about = 4;
        KeptPromises x = with("free from 0 to 0");
        x.row(0, 1, 5);
        for (int i = 0; i < 5; i++) x.set(0, i, i + 1);
        x.row(1, 1, 3);
        x.row(2, 2, 3);
        x.put(3, 0);
        due("copy(0, 0, 0, 1, 4)", x.copy(0, 0, 0, 1, 4), 1);
        int[] after = {1, 1, 2, 3, 4};
        for (int i = 0; i < 5; i++) due("element(0, " + i + ")", x.element(0, i), after[i]);
        due("copy(0, 1, 3, 1, 2)", x.copy(0, 1, 3, 1, 2), 1);
        due("element(1, 1)", x.element(1, 1), 3);
        due("element(1, 2)", x.element(1, 2), 4);
        due("copy(0, 1, 5, 3, 0)", x.copy(0, 1, 5, 3, 0), 1);
        due("copy(0, 1, 6, 3, 0)", x.copy(0, 1, 6, 3, 0), -5);
        due("copy(0, 1, 0, 4, 0)", x.copy(0, 1, 0, 4, 0), -5);
        due("copy(0, 1, -1, 0, 1)", x.copy(0, 1, -1, 0, 1), -5);
        due("copy(0, 1, 0, -1, 1)", x.copy(0, 1, 0, -1, 1), -5);
        due("copy far", x.copy(0, 1, Integer.MAX_VALUE, 0, Integer.MAX_VALUE), -5);
        due("copy(0, 1, 0, 0, 4)", x.copy(0, 1, 0, 0, 4), -5);
        due("copy(0, 1, -1, 0, -1)", x.copy(0, 1, -1, 0, -1), -4);
        due("copy(0, 2, 0, 0, -1)", x.copy(0, 2, 0, 0, -1), -2);
        due("copy(0, 3, 0, 0, 1)", x.copy(0, 3, 0, 0, 1), -2);
        due("copy(3, 4, 0, 0, 1)", x.copy(3, 4, 0, 0, 1), -2);
        due("copy(4, 3, 0, 0, 1)", x.copy(4, 3, 0, 0, 1), -2);
        due("copy(0, 4, 0, 0, 1)", x.copy(0, 4, 0, 0, 1), -3);
        due("copy(4, 0, 0, 0, -1)", x.copy(4, 0, 0, 0, -1), -3);
        due("copy(0, 8, 0, 0, 1)", x.copy(0, 8, 0, 0, 1), -1);
        due("copy(-1, 3, 0, 0, 1)", x.copy(-1, 3, 0, 0, 1), -1);
    }

    private static void shelves() {
        KeptPromises x = with("do 2 from 0 to 4 for 3", "whole 3 from 0 to 5 for 1", "again 2 from 0 to 4",
            "once 1 from 0 to 3 if 0=0 for 5", "never 3 from 2 to 4 for 2", "free from 9 to 11");
        about = 6;
        for (int n = 0; n < 6; n++) due("put(" + n + ", " + n + ")", x.put(n, n), 1);
        due("put(6, -1)", x.put(6, -1), 0);
        due("put(0, 6)", x.put(0, 6), -1);
        due("put(0, -2)", x.put(0, -2), -1);
        due("put(8, 0)", x.put(8, 0), -1);
        due("put(-1, -1)", x.put(-1, -1), -1);
        about = 7;
        for (int n = 0; n < 6; n++) due("holds(" + n + ")", x.holds(n), n);
        due("holds(6)", x.holds(6), -1);
        due("holds(7)", x.holds(7), 100);
        due("holds(8)", x.holds(8), -1);
        about = 8;
        x.work(2);
        int[][] says = {
            {3, 2, -2, -2, -2, -2, -2},
            {1, 3, 2, -2, -2, -2, -2},
            {0, 3, -2, 3, -2, -2, -2},
            {5, 1, -2, -2, 1, -2, -2},
            {2, -2, -2, -2, -2, 3, -2},
            {0, -2, -2, -2, -2, -2, 3}};
        for (int n = 0; n < 6; n++) {
            for (int kind = 0; kind <= 6; kind++) {
                due("says(" + n + ", " + kind + ")", x.says(n, kind), says[n][kind]);
            }
        }
        due("says(6, 0)", x.says(6, 0), -3);
        due("says(7, 0)", x.says(7, 0), -2);
        due("says(8, 0)", x.says(8, 0), -1);
        due("says(6, 7)", x.says(6, 7), -1);
        due("says(0, -1)", x.says(0, -1), -1);
    }

    private static void read(KeptPromises x, String text, int answer, int fault) {
        due("promise '" + text + "'", Texts.promise(x, text), answer);
        due("fault of '" + text + "'", x.fault(), fault);
    }

    private static void reading() {
        about = 9;
        KeptPromises x = new KeptPromises();
        due("promise(8)", x.promise(8), -1);
        due("promise(0)", x.promise(0), -3);
        due("fault()", x.fault(), -1);
        read(x, "do 3 from 0 to 2 with 0 if 2=1 owe 0 for 0", 0, -1);
        read(x, "again 6 from 0 to 11 after 0 owe 99 for 5", 1, -1);
        read(x, "free from 09 to 9 owe 7", 2, -1);
        x.put(1, 0);
        due("promise(1)", x.promise(1), -2);
        due("fault()", x.fault(), -1);
        for (int sort = 0; sort < 4; sort++) {
            String text = "do 1 from 0 to 11";
            x.row(0, sort, text.length());
            for (int i = 0; i < text.length(); i++) x.set(0, i, text.charAt(i) | (sort == 3 ? 5L << 32 : 0));
            due("promise of sort " + sort, x.promise(0), 3 + sort);
        }
        KeptPromises y = with("do 1 from 0 to 5");
        y.work(0);
        y.work(0);
        about = 10;
        read(y, "do 9 from 0 to 5", -6, 3);
        read(y, "do 1 from 1 to 5", -6, -1);
        read(y, "do 1 from 2 to 5", 1, -1);
    }

    private static void faults() {
        about = 10;
        KeptPromises x = new KeptPromises();
        read(x, "", -6, 0);
        read(x, "x", -6, 0);
        read(x, "Do 1 from 0 to 1", -6, 0);
        read(x, " do 1 from 0 to 1", -6, 0);
        read(x, "d", -6, 1);
        read(x, "du", -6, 1);
        read(x, "do ", -6, 3);
        read(x, "do  1", -6, 3);
        read(x, "do 0 from", -6, 3);
        read(x, "do 4x", -6, 3);
        read(x, "do 12 from", -6, 4);
        read(x, "whole 4 from 0 to 9", -6, 6);
        read(x, "once 4 from 0 to 9", -6, 5);
        read(x, "again 0 from 0 to 1", -6, 6);
        read(x, "again 7 from 0 to 1", -6, 6);
        read(x, "never 4 from 0 to 1", -6, 6);
        read(x, "free 1", -6, 5);
        read(x, "do 1 fron", -6, 8);
        read(x, "do 1 from", -6, 9);
        read(x, "do 1 from 1", -6, 11);
        x = new KeptPromises();
        read(x, "do 1 from 12 to 12", -6, 10);
        read(x, "do 1 from 111", -6, 12);
        read(x, "do 1 from 99x", -6, 10);
        read(x, "do 1 from 3 to ", -6, 15);
        read(x, "do 1 from 3 to 12", -6, 15);
        read(x, "do 1 from 3 to 2", -6, 15);
        read(x, "do 1 from 3 to 1x", -6, 15);
        read(x, "do 1 from 3 to 112", -6, 17);
        read(x, "do 3 from 10 to 11", -6, 16);
        read(x, "again 3 from 0 to 9", -6, 18);
        read(x, "again 3 from 0 to 8", 0, -1);
        read(x, "do 1 from 3 to 10", 1, -1);
        read(x, "whole 3 from 00 to 02", 2, -1);
    }

    private static void faultsOfExtras() {
        about = 10;
        KeptPromises x = with("do 1 from 0 to 1", "free from 0 to 0");
        String start = "do 1 from 3 to 4";
        read(x, start + " ", -6, 17);
        read(x, start + "x", -6, 16);
        read(x, start + " x", -6, 17);
        read(x, start + " wit", -6, 20);
        read(x, start + " with 4", -6, 22);
        read(x, start + " with 1 with 1", -6, 24);
        read(x, start + " after 1", -6, 23);
        read(x, start + " after 2", -6, 23);
        read(x, start + " after 0 with 1", -6, 25);
        read(x, start + " if 3=0", -6, 20);
        read(x, start + " if 0=2", -6, 22);
        read(x, start + " if 0 =1", -6, 21);
        read(x, start + " if 0=1 after 0", -6, 24);
        due("status(16)", x.status(16), 13);
        x = with("do 1 from 0 to 1", "free from 0 to 0");
        read(x, start + " owe 100", -6, 23);
        read(x, start + " owe x", -6, 21);
        read(x, start + " owe", -6, 20);
        read(x, start + " for 6", -6, 21);
        read(x, start + " for 5 ", -6, 22);
        read(x, start + " for 1 owe 1", -6, 22);
        read(x, start + " owe 1 owe 1", -6, 23);
        read(x, "once 1 from 3 to 4", -6, 18);
        read(x, "once 1 from 3 to 4 with 1", -6, 25);
        read(x, "once 1 from 3 to 4 for 1", -6, 19);
        read(x, "never 1 from 3 to 4 after 0", -6, 20);
        read(x, "free from 3 to 4 with 0", -6, 17);
        read(x, "free from 3 to 4 after 0", -6, 17);
        due("status(16)", x.status(16), 13);
        read(x, start + " with 0 after 0 if 1=1 owe 07 for 4", 2, -1);
        int[] told = {1, 3, 4, 0, 0, 1, 1, 7, 4, 1, 1, 0};
        about = 11;
        for (int i = 0; i < 12; i++) due("promiseOf(2, " + i + ")", x.promiseOf(2, i), told[i]);
    }

    private static void rooms() {
        about = 9;
        KeptPromises x = with("do 1 from 0 to 1", "do 1 from 0 to 1", "do 1 from 0 to 1", "do 1 from 0 to 1",
            "do 1 from 0 to 1");
        read(x, "never 0 from 0 to 0", 5, -1);
        read(x, "free from 0 to 0", 6, -1);
        read(x, "never 0 from 0 to 0", 7, -1);
        read(x, "free from 0 to 0", -7, -1);
        read(x, "do 1 from 0 to 1 after 7", -6, 23);
        read(x, "do 1 from 0 to 1 after 4", 8, -1);
        read(x, "do 1 from 0 to 1", -7, -1);
        read(x, "do 1 from 0 to x", -6, 15);
        due("status(0)", x.status(0), 9);
        due("status(1)", x.status(1), 6);
        due("status(17)", x.status(17), 2);
        x.work(0);
        read(x, "do 1 from 0 to 1", -6, -1);
    }

    private static void told() {
        about = 11;
        KeptPromises x = with("again 2 from 1 to 5", "never 3 from 2 to 11 if 2=1 owe 45 for 4");
        int[][] due = {{3, 1, 5, -1, -1, -1, 0, 0, 0, 3, 3, 0}, {5, 2, 11, 3, -1, 2, 1, 45, 4, 0, 0, 0}};
        for (int n = 0; n < 2; n++) {
            for (int what = 0; what < 12; what++) {
                due("promiseOf(" + n + ", " + what + ")", x.promiseOf(n, what), due[n][what]);
            }
        }
        due("promiseOf(0, 12)", x.promiseOf(0, 12), -5);
        due("promiseOf(0, -1)", x.promiseOf(0, -1), -5);
        due("promiseOf(2, 0)", x.promiseOf(2, 0), -5);
        due("promiseOf(-1, 0)", x.promiseOf(-1, 0), -5);
        x.work(0);
        x.work(1);
        due("promiseOf(0, 10)", x.promiseOf(0, 10), 2);
        due("promiseOf(0, 9)", x.promiseOf(0, 9), 3);
        x.work(0);
        x.work(0);
        due("work(0)", x.work(0), 1);
        due("promiseOf(0, 11)", x.promiseOf(0, 11), 1);
    }

    private static void settings() {
        KeptPromises x = with("do 1 from 1 to 3 if 1=1");
        about = 12;
        due("hands(0, 2)", x.hands(0, 2), 1);
        due("hands(0, 0)", x.hands(0, 0), 2);
        due("hands(11, 1)", x.hands(11, 1), 1);
        due("hands(12, 3)", x.hands(12, 3), -1);
        due("hands(-1, 0)", x.hands(-1, 0), -1);
        due("hands(0, 3)", x.hands(0, 3), -6);
        due("hands(0, -1)", x.hands(0, -1), -6);
        due("hands(0, 1)", x.hands(0, 1), 0);
        about = 13;
        due("known(2, 11)", x.known(2, 11), 0);
        due("known(2, 1)", x.known(2, 1), 11);
        due("known(3, 0)", x.known(3, 0), -1);
        due("known(-1, 0)", x.known(-1, 0), -1);
        due("known(0, 12)", x.known(0, 12), -1);
        due("known(0, -1)", x.known(0, -1), -1);
        about = 14;
        due("turn(0, 1)", x.turn(0, 1), 0);
        due("turn(0, 0)", x.turn(0, 0), 1);
        due("turn(2, 1)", x.turn(2, 1), 0);
        due("status(4)", x.status(4), 4);
        due("turn(3, 0)", x.turn(3, 0), -1);
        due("turn(-1, 5)", x.turn(-1, 5), -1);
        due("turn(0, 2)", x.turn(0, 2), -6);
        due("turn(0, -1)", x.turn(0, -1), -6);
        x.known(1, 2);
        x.work(0);
        due("turn(0, 1) known before now", x.turn(0, 1), -6);
        due("turn(2, 0) known from now on", x.turn(2, 0), 1);
        due("turn(1, 1)", x.turn(1, 1), 0);
        x.work(0);
        due("turn(1, 0) that one hangs on", x.turn(1, 0), -6);
        due("turn(2, 1)", x.turn(2, 1), -6);
        due("status(16)", x.status(16), 7);
    }

    private static void swaps() {
        about = 15;
        KeptPromises x = with("do 1 from 0 to 5", "do 1 from 0 to 5 after 0", "free from 9 to 9");
        due("swap(1, -1)", x.swap(1, -1), 0);
        due("swap(1, 0)", x.swap(1, 0), -1);
        due("swap(1, 1)", x.swap(1, 1), -16);
        due("swap(2, 0)", x.swap(2, 0), -11);
        due("swap(0, 2)", x.swap(0, 2), -11);
        due("swap(2, 2)", x.swap(2, 2), -11);
        due("swap(3, -1)", x.swap(3, -1), -11);
        due("swap(-1, -1)", x.swap(-1, -1), -11);
        due("swap(0, -2)", x.swap(0, -2), -11);
        due("promiseOf(1, 4)", x.promiseOf(1, 4), 0);
        due("status(11)", x.status(11), 6);
        due("status(16)", x.status(16), 1);
    }

    private static void keepings() {
        KeptPromises x = with("do 2 from 0 to 3 with 1", "do 1 from 0 to 1 with 1", "do 1 from 0 to 3 after 1");
        about = 16;
        due("can(0)", x.can(0), 1);
        due("can(7)", x.can(7), 1);
        due("can(8)", x.can(8), -6);
        due("can(-1)", x.can(-1), -6);
        about = 17;
        int[] sets = {1, 2, 1, 4};
        for (int h = 0; h < 12; h++) due("hour(0, " + h + ")", x.hour(0, h), h < 4 ? sets[h] : 0);
        due("hour(0, 12)", x.hour(0, 12), -5);
        due("hour(0, -1)", x.hour(0, -1), -5);
        due("hour(8, 0)", x.hour(8, 0), -5);
        x.work(1);
        due("hour(0, 0)", x.hour(0, 0), -5);
        due("hour(0, 1)", x.hour(0, 1), 2);
        x.hands(2, 0);
        about = 16;
        due("can(0)", x.can(0), 0);
        about = 17;
        due("hour(0, 3)", x.hour(0, 3), -5);
        x.hands(3, 2);
        due("hour(0, 3)", x.hour(0, 3), 5);
        Texts.promise(x, "never 1 from 3 to 3");
        due("can(0)", x.can(0), 0);
    }

    private static void knownForks() {
        about = 16;
        KeptPromises x = with("once 1 from 0 to 2 if 0=1", "free from 2 to 2 if 1=1", "never 0 from 1 to 1 if 2=0");
        due("can(1)", x.can(1), 1);
        x.known(0, 3);
        due("can(1)", x.can(1), 0);
        due("can(0)", x.can(0), 1);
        x.known(0, 2);
        due("can(1)", x.can(1), 1);
        due("can(3)", x.can(3), 0);
        x.known(1, 11);
        due("can(3) though it isn't known yet", x.can(3), 0);
        KeptPromises y = with("do 1 from 0 to 1 with 0", "free from 0 to 0", "never 0 from 1 to 1 if 2=0");
        due("can(0)", y.can(0), 0);
        due("can(4)", y.can(4), 1);
    }

    private static void kinds() {
        about = 16;
        KeptPromises whole = with("whole 2 from 0 to 5", "do 1 from 1 to 1");
        due("whole, hour(0, 2)", whole.hour(0, 2), 0);
        due("whole, hour(0, 4)", whole.hour(0, 4), 1);
        whole.work(1);
        due("whole begun, can(0)", whole.can(0), 0);
        due("whole begun, work(2)", whole.work(2), 1);
        KeptPromises again = with("again 3 from 1 to 8");
        due("again, LENGTH", again.promiseOf(0, 9), 3);
        due("again, hour(0, 3)", again.hour(0, 3), 1);
        due("again, hour(0, 8)", again.hour(0, 8), 1);
        due("again, hour(0, 5)", again.hour(0, 5), 0);
        again.work(0);
        due("again, work(1)", again.work(1), 0);
        due("again, work(1) twice in a span", again.work(1), -6);
        again.work(0);
        again.work(0);
        due("again, NOW", again.status(3), 4);
        due("again, work(1) in the next span", again.work(1), 0);
        again.work(0);
        again.work(0);
        again.work(0);
        due("again, lost at the end of the last span", again.work(0), 1);
    }

    private static void bearing() {
        KeptPromises x = with("do 1 from 0 to 2 if 0=0", "do 1 from 0 to 2 if 0=1", "do 1 from 0 to 2");
        about = 18;
        x.known(0, 2);
        due("all()", x.all(), 1);
        about = 19;
        due("begin()", x.begin(), 0);
        x.hands(1, 0);
        due("begin()", x.begin(), 4);
        about = 18;
        x.known(0, 3);
        due("all() known too late", x.all(), 0);
        about = 19;
        due("begin()", x.begin(), -5);
        about = 20;
        due("trap()", x.trap(), 0);
        x.known(0, 0);
        x.hands(1, 1);
        due("trap()", x.trap(), -1);
        about = 18;
        KeptPromises y = with("do 1 from 0 to 0", "free from 0 to 0 if 0=1");
        y.known(0, 1);
        due("all()", y.all(), 0);
        about = 20;
        due("trap()", y.trap(), 1);
        y.known(0, 0);
        due("trap() when it is known", y.trap(), -1);
        y.turn(0, 1);
        due("trap() when it is known otherwise", y.trap(), 1);
        about = 18;
        due("all()", y.all(), 0);
        KeptPromises z = with("do 1 from 0 to 1", "do 1 from 2 to 2 if 0=1", "free from 0 to 0 if 0=1", "free from 1 to 1 if 0=0");
        z.known(0, 2);
        due("all() though each outcome can be kept", z.all(), 0);
        due("can(0)", z.can(0), 1);
        due("can(1)", z.can(1), 1);
        about = 20;
        due("trap()", z.trap(), -1);
        about = 18;
        z.known(0, 1);
        due("all() told in time", z.all(), 0);
        z.known(0, 0);
        due("all() told at once", z.all(), 1);
    }

    private static void unsure() {
        String first = "do 1 from 0 to 1";
        for (int f = 0; f < 3; f++) {
            for (int v = 0; v < 2; v++) {
                String fork = " if " + f + "=" + v;
                KeptPromises x = with(first, "do 1 from 1 to 1" + fork, "free from 1 to 1 if " + f + "=" + (1 - v));
                x.known(f, 1);
                about = 19;
                due("begin() by" + fork, x.begin(), 1);
                x.hands(0, 0);
                about = 18;
                due("all() by" + fork, x.all(), 0);
                KeptPromises y = with(first, "once 2 from 1 to 3" + fork, "do 1 from 1 to 3");
                y.known(f, 1);
                about = 19;
                due("begin() by" + fork, y.begin(), 1);
                y.known(f, 2);
                y.hands(0, 0);
                about = 18;
                due("all() by" + fork, y.all(), 0);
                y.hands(3, 2);
                due("all() by" + fork, y.all(), 1);
            }
        }
        for (int v = 0; v < 4; v++) {
            KeptPromises x = with("do 1 from 0 to 1", "do 1 from 1 to 2 if 0=" + (v & 1), "do 1 from 1 to 2 if 1=" + (v >> 1));
            x.known(0, 1);
            x.known(1, 1);
            about = 18;
            due("all() by two forks at once", x.all(), 1);
            about = 19;
            due("begin() by two forks at once", x.begin(), 1);
            x.hands(0, 0);
            about = 18;
            due("all() by two forks at once", x.all(), 0);
            x.hands(0, 1);
            x.known(1, 2);
            due("all() by two forks one after the other", x.all(), 1);
            Texts.promise(x, "never 0 from 2 to 2 if 1=" + (v >> 1));
            due("all() with a never", x.all(), 1);
            Texts.promise(x, "free from 2 to 2 if 0=" + (v & 1));
            due("all() with a free", x.all(), 0);
        }
    }

    private static void quarrels() {
        about = 21;
        KeptPromises x = with("do 1 from 0 to 0", "do 1 from 1 to 1", "do 1 from 1 to 1", "free from 0 to 0 if 0=1");
        due("quarrel(0)", x.quarrel(0), 6);
        x.hands(1, 2);
        due("quarrel(0)", x.quarrel(0), 0);
        due("quarrel(1)", x.quarrel(1), 9);
        due("quarrel(8)", x.quarrel(8), -6);
        due("quarrel(-1)", x.quarrel(-1), -6);
        KeptPromises y = with("do 1 from 0 to 1", "do 1 from 0 to 1 after 0");
        y.work(1);
        due("quarrel(0)", y.quarrel(0), 0);
        y.work(0);
        due("quarrel(0) of a lost one", y.quarrel(0), 2);
    }

    private static void owing() {
        KeptPromises x = with("do 2 from 0 to 1 owe 9", "do 1 from 0 to 1 with 2 owe 4", "do 1 from 0 to 1 after 1 owe 1",
            "never 2 from 0 to 1 owe 2", "free from 1 to 1 if 0=1 owe 3");
        about = 22;
        due("dear(0)", x.dear(0), 5);
        due("dear(1)", x.dear(1), 8);
        due("dear(8)", x.dear(8), -6);
        about = 23;
        due("fewest(0)", x.fewest(0), 2);
        due("fewest(1)", x.fewest(1), 3);
        due("fewest(-1)", x.fewest(-1), -6);
        x.hands(0, 2);
        x.hands(1, 2);
        about = 22;
        due("dear(0)", x.dear(0), 2);
        due("dear(1)", x.dear(1), 5);
        x.work(0);
        due("dear(0) later", x.dear(0), 12);
        x.work(0);
        due("dear(0) in the end", x.dear(0), 14);
        due("dear(1) in the end", x.dear(1), 14);
        about = 23;
        due("fewest(0) in the end", x.fewest(0), 3);
        KeptPromises y = with("do 1 from 0 to 0 if 0=1 owe 9", "do 1 from 3 to 3");
        y.turn(0, 1);
        y.work(0);
        about = 22;
        due("dear(1) of a lost one", y.dear(1), 9);
        due("dear(0) by which it isn't asked", y.dear(0), 0);
    }

    private static void endsAndMust() {
        KeptPromises x = with("do 2 from 0 to 4", "do 1 from 2 to 3 after 0", "do 1 from 0 to 9 if 2=1", "free from 1 to 1");
        about = 24;
        due("ends(0, 0)", x.ends(0, 0), 0);
        due("ends(1, 0)", x.ends(1, 0), 303);
        due("ends(2, 0)", x.ends(2, 0), -5);
        due("ends(2, 4)", x.ends(2, 4), 904);
        due("ends(3, 0)", x.ends(3, 0), -5);
        due("ends(4, 0)", x.ends(4, 0), -5);
        due("ends(-1, 0)", x.ends(-1, 0), -5);
        due("ends(0, 8)", x.ends(0, 8), -5);
        about = 25;
        due("must(0)", x.must(0), 1);
        due("must(8)", x.must(8), -5);
        due("must(-1)", x.must(-1), -5);
        x.work(1);
        due("must(0)", x.must(0), 0);
        about = 24;
        due("ends(0, 0) that has begun", x.ends(0, 0), -5);
        x.work(0);
        x.work(0);
        about = 25;
        due("must(0) without a keeping", x.must(0), -5);
        about = 24;
        due("ends(1, 0) without a keeping", x.ends(1, 0), -5);
        KeptPromises y = with("whole 3 from 1 to 6", "again 4 from 0 to 11");
        due("ends(0, 0)", y.ends(0, 0), 401);
        due("ends(1, 0)", y.ends(1, 0), 300);
    }

    private static void sparesAndDoomed() {
        KeptPromises x = with("do 3 from 0 to 3 if 0=1", "again 5 from 0 to 11", "do 1 from 0 to 0 after 1",
            "do 1 from 0 to 11 after 2", "free from 0 to 9");
        about = 26;
        due("spare(0)", x.spare(0), 12 - 5);
        due("spare(1)", x.spare(1), 12 - 8);
        x.hands(0, 0);
        due("spare(1)", x.spare(1), 11 - 8);
        due("spare(8)", x.spare(8), -1000);
        due("spare(-1)", x.spare(-1), -1000);
        due("status(16)", x.status(16), 2);
        about = 27;
        due("doomed(0, 1)", x.doomed(0, 1), 0);
        due("doomed(1, 0)", x.doomed(1, 0), 0);
        due("doomed(2, 0)", x.doomed(2, 0), 1);
        due("doomed(3, 0)", x.doomed(3, 0), 1);
        x.swap(3, 1);
        due("doomed(3, 0)", x.doomed(3, 0), 0);
        due("doomed(4, 0)", x.doomed(4, 0), -1);
        due("doomed(5, 8)", x.doomed(5, 8), -1);
        due("doomed(0, 8)", x.doomed(0, 8), -6);
        x.work(0);
        due("doomed(2, 0) when it is lost", x.doomed(2, 0), 1);
        about = 26;
        due("spare(0) without the lost one", x.spare(0), 11 - 4);
        for (int h = 1; h < 12; h++) x.hands(h, 0);
        due("spare(0)", x.spare(0), -4);
    }

    private static void giving() {
        KeptPromises x = with("do 3 from 0 to 3");
        about = 28;
        Texts.write(x, 0, 0, "do 1 from 1 to 3");
        due("give(0)", x.give(0), 1);
        due("status(0)", x.status(0), 1);
        about = 29;
        due("many(0)", x.many(0), 1);
        Texts.write(x, 0, 0, "do 2 from 1 to 5");
        due("many(0)", x.many(0), 1);
        Texts.write(x, 0, 0, "do 1 from 1 to 11 after 0");
        due("many(0)", x.many(0), 5);
        Texts.write(x, 0, 0, "free from 4 to 11");
        due("many(0)", x.many(0), 3);
        Texts.write(x, 0, 0, "free from 0 to 3");
        due("many(0)", x.many(0), 0);
        due("fault()", x.fault(), -1);
        Texts.write(x, 0, 0, "free from 0 to 3 with");
        due("many(0)", x.many(0), -6);
        due("fault()", x.fault(), 17);
        about = 28;
        Texts.write(x, 0, 0, "free from 0 to 3");
        due("give(0)", x.give(0), 0);
        due("fault()", x.fault(), -1);
        due("give(1)", x.give(1), -3);
        due("give(-1)", x.give(-1), -1);
        x.put(2, 0);
        due("give(2)", x.give(2), -2);
        about = 29;
        due("many(1)", x.many(1), -3);
        due("many(8)", x.many(8), -1);
        due("many(2)", x.many(2), -2);
        for (int k = 0; k < 3; k++) Texts.promise(x, "never 0 from 0 to 0");
        due("many(0) without room", x.many(0), 0);
        about = 28;
        due("give(0) without room", x.give(0), -7);
        Texts.write(x, 0, 0, "do 1 from 5 to 6 if 0=1");
        x.known(0, 7);
        due("give(0) told too late", x.give(0), 0);
        x.known(0, 6);
        due("give(0) told in time", x.give(0), 1);
        x.work(0);
        Texts.write(x, 0, 0, "do 1 from 0 to 6");
        due("give(0) before now", x.give(0), -6);
        due("fault()", x.fault(), -1);
    }

    private static void rings() {
        String work = "do 1 from 0 to 11";
        KeptPromises x = with(work, work, work, work, work, work);
        about = 30;
        due("ring()", x.ring(), 0);
        x.swap(0, 1);
        x.swap(1, 2);
        x.swap(2, 1);
        due("ring()", x.ring(), 6);
        about = 31;
        due("opening()", x.opening(), 1);
        x.swap(3, 4);
        x.swap(4, 5);
        x.swap(5, 3);
        due("opening()", x.opening(), 2);
        about = 30;
        due("ring()", x.ring(), 62);
        due("can(0)", x.can(0), 0);
        due("quarrel(0)", x.quarrel(0), 32);
        x.swap(1, -1);
        x.swap(5, -1);
        due("ring()", x.ring(), 0);
        about = 31;
        due("opening()", x.opening(), 0);
        about = 30;
        due("work(2)", x.work(2), 0);
        x.swap(1, 2);
        due("ring() with one that is done", x.ring(), 6);
        due("work(4) of a ring", x.work(4), -6);
    }

    private static void byHand() {
        KeptPromises x = with("do 2 from 0 to 2 with 1 owe 3 for 1", "whole 2 from 0 to 4 with 1 owe 5 for 1",
            "free from 3 to 3 if 0=1 owe 7 for 1", "never 1 from 4 to 4 if 0=1 owe 11 for 2");
        hour(x, 2, 1, 1, 0, 2, 2);
        about = 32;
        due("judge(6, 0)", x.judge(6, 0), -1);
        due("judge(6, 1)", x.judge(6, 1), 34);
        about = 33;
        due("lost(6, 0)", x.lost(6, 0), 0);
        due("lost(6, 1)", x.lost(6, 1), 14);
        about = 34;
        due("owed(6, 0, 1)", x.owed(6, 0, 1), 0);
        due("owed(6, 1, 1)", x.owed(6, 1, 1), 12);
        due("owed(6, 1, 2)", x.owed(6, 1, 2), 11);
        due("owed(6, 1, 0)", x.owed(6, 1, 0), 0);
        due("owed(6, 1, 6)", x.owed(6, 1, 6), -1);
        due("owed(6, 8, -1)", x.owed(6, 8, -1), -1);
        due("owed(8, 0, 0)", x.owed(8, 0, 0), -1);
        due("owed(5, 8, 0)", x.owed(5, 8, 0), -3);
        due("owed(6, 8, 0)", x.owed(6, 8, 0), -6);
        x.put(4, 0);
        due("owed(4, 0, 0)", x.owed(4, 0, 0), -2);
        about = 33;
        due("lost(8, 0)", x.lost(8, 0), -1);
        due("lost(4, 0)", x.lost(4, 0), -2);
        due("lost(5, 0)", x.lost(5, 0), -3);
        due("lost(6, -1)", x.lost(6, -1), -6);
        about = 32;
        due("judge(8, 0)", x.judge(8, 0), -11);
        due("judge(4, 0)", x.judge(4, 0), -12);
        due("judge(5, 9)", x.judge(5, 9), -13);
        due("judge(6, 8)", x.judge(6, 8), -16);
        for (int k = 1; k <= 3; k++) due("status(1" + k + ")", x.status(10 + k), k == 1 ? 5 : 3);
        due("status(16)", x.status(16), 3);
        hour(x, 0);
        about = 33;
        due("lost of an empty row", x.lost(6, 0), 3);
        x.work(1);
        x.work(0);
        hour(x, 3, 1, 1);
        due("lost(6, 0) as at first", x.lost(6, 0), 2);
        about = 32;
        due("judge(6, 0) as at first", x.judge(6, 0), -1);
    }

    private static void whyNot() {
        about = 32;
        KeptPromises x = with("do 1 from 0 to 4 with 1", "do 1 from 0 to 4 with 1", "do 1 from 0 to 4 after 1",
            "never 1 from 0 to 1", "free from 1 to 2");
        x.hands(2, 2);
        x.hands(4, 2);
        int[][] rows = {{8}, {512}, {-1}, {4}, {3}, {7}, {1}, {0, 3}, {0, 1}, {0, 0, 3}, {0, 0, 2}, {0, 0, 0, 0, 3},
            {0, 0, 0, 2, 4}, {0, 0, 0, 2, 5}, {0, 0, 0, 2, 2}, {0, 0, 0, 0, 0, 1}, {0, 0, 0, 0, 0, 0, 0, 0, 0, 0, 0, 0, 1}};
        int[] why = {1, 1, 1, 1, 2, 1, 5, 12, 14, 23, 24, 43, -1, -1, 41, 51, -1};
        for (int i = 0; i < rows.length; i++) {
            hour(x, 2, rows[i]);
            due("judge of row " + i, x.judge(6, 0), why[i]);
        }
        KeptPromises two = with("do 1 from 0 to 4 with 0", "do 1 from 0 to 4 with 1", "never 0 from 0 to 0 owe 1",
            "never 1 from 0 to 0 owe 2", "free from 2 to 3 owe 4");
        two.hands(0, 2);
        hour(two, 2, 3, 0, 1, 2);
        due("judge of two things", two.judge(6, 0), 5);
        due("lost of two things", two.lost(6, 0), 31);
        due("owed of two things", two.owed(6, 0, 0), 7);
        KeptPromises free = with("do 1 from 0 to 4", "free from 1 to 1", "free from 1 to 2", "never 0 from 1 to 1");
        hour(free, 2, 1, 0, 1);
        due("judge of a free one", free.judge(6, 0), 21);
        hour(free, 2, 0, 1, 1, 1);
        due("judge of free ones", free.judge(6, 0), 14);
        due("lost of free ones", free.lost(6, 0), 6);
        hour(x, 0, 0, 0, 0, 1);
        x.hands(3, 0);
        due("judge without hands", x.judge(6, 0), 32);
        hour(x, 3, 0, 0, 0, 0, 0);
        x.set(6, 4, (1L << 40) + 2);
        due("judge of longs", x.judge(6, 0), -1);
    }

    private static void hoursGoBy() {
        about = 35;
        KeptPromises x = with("do 1 from 0 to 2 if 0=1", "whole 2 from 0 to 3", "do 1 from 0 to 2 if 0=0", "free from 2 to 2 if 1=0");
        x.known(0, 1);
        due("work(1) not known yet", x.work(1), -6);
        due("work(8) of none", x.work(8), -6);
        due("work(-1)", x.work(-1), -6);
        due("work(256)", x.work(256), -6);
        due("status(3)", x.status(3), 0);
        due("work(0)", x.work(0), 0);
        due("work(1) not asked", x.work(1), -6);
        due("work(6) without hands", x.work(6), -6);
        due("work(2)", x.work(2), 0);
        due("work(2) on a free hour", x.work(2), -6);
        due("work(0)", x.work(0), 6);
        due("status(2)", x.status(2), 2);
        due("work(2) of a lost one", x.work(2), -6);
        for (int h = 3; h < 12; h++) due("work(0) in " + h, x.work(0), 0);
        due("status(3)", x.status(3), 12);
        due("work(0) when all is over", x.work(0), -6);
        due("status(16)", x.status(16), 9);
    }

    private static void debts() {
        KeptPromises x = with("do 1 from 0 to 0 owe 7 for 2", "do 1 from 0 to 0 owe 60 for 2", "do 1 from 0 to 1 owe 1 for 2",
            "free from 0 to 0 owe 5 for 2");
        x.work(0);
        about = 36;
        due("debt(2)", x.debt(2), 67);
        due("debt(0)", x.debt(0), 0);
        due("debt(6)", x.debt(6), -1);
        due("debt(-1)", x.debt(-1), -1);
        about = 37;
        due("mend(0, 0)", x.mend(0, 0), 3);
        due("mend(0, 1)", x.mend(0, 1), 6);
        due("mend(1, 1)", x.mend(1, 1), 99);
        due("mend(1, 0)", x.mend(1, 0), 49);
        due("promiseOf(1, 7)", x.promiseOf(1, 7), 49);
        due("debt(2)", x.debt(2), 55);
        due("mend(1, 2)", x.mend(1, 2), 0);
        due("mend(2, 0)", x.mend(2, 0), -6);
        due("mend(3, 0)", x.mend(3, 0), -6);
        due("mend(0, 3)", x.mend(0, 3), -6);
        due("mend(0, -1)", x.mend(0, -1), -6);
        due("mend(4, 9)", x.mend(4, 9), -1);
        due("mend(-1, 0)", x.mend(-1, 0), -1);
        due("debt(2)", x.debt(2), 6);
    }

    private static void traced(KeptPromises x, int promise, int act, int arg, int answer, int... bodies) {
        about = 38;
        due("act(" + promise + ", " + act + ", " + arg + ")", x.act(promise, act, arg), answer);
        about = 39;
        for (int i = 0; i < bodies.length; i++) due("trace(" + i + ")", x.trace(i), bodies[i]);
        due("trace beyond", x.trace(bodies.length), -1);
        due("trace(-1)", x.trace(-1), -1);
        due("status(5)", x.status(5), bodies.length);
    }

    private static void acts() {
        KeptPromises x = with("do 1 from 0 to 3 owe 4", "whole 1 from 0 to 3 owe 9", "again 2 from 0 to 3 owe 2",
            "once 1 from 0 to 3 if 0=1 owe 1", "never 0 from 0 to 1 owe 3", "free from 0 to 1 owe 8");
        traced(x, 0, 0, 7, 21, 20, 10);
        traced(x, 0, 2, 7, 42 ^ 9, 12, 11, 20, 10, 20, 10);
        traced(x, 1, 1, 7, 48 + 9, 30, 11, 20, 10);
        traced(x, 1, 2, 7, 57 ^ -3, 12, 30, 11, 20, 10, 20, 10);
        traced(x, 2, 2, 7, 60 ^ 24, 40, 12, 11, 20, 10, 20, 10);
        traced(x, 3, 0, 7, -30, 50, 20, 10);
        traced(x, 3, 2, 7, -60 ^ -27, 12, 11, 50, 20, 10, 50, 20, 10);
        traced(x, 4, 0, 7, 11, 10);
        traced(x, 4, 2, 7, (22 ^ 8) - 4, 60, 12, 11, 10, 10);
        traced(x, 5, 1, 7, 24 ^ 5, 70, 11, 10);
        traced(x, 5, 2, 7, 29 ^ 4, 12, 70, 11, 10, 10);
        traced(x, 1, 0, Integer.MAX_VALUE, Integer.MIN_VALUE * 3, 20, 10);
        traced(x, 6, 0, 7, 0);
        traced(x, 0, 0, 7, 21, 20, 10);
        traced(x, 0, 3, 7, 0);
        traced(x, 0, -1, 7, 0);
        traced(x, -1, 0, 7, 0);
        due("status(11)", x.status(11), 0);
    }

    private static void images() {
        KeptPromises x = with("do 1 from 0 to 0 owe 8", "do 1 from 0 to 3");
        about = 41;
        due("restore() without an image", x.restore(), -6);
        about = 40;
        due("image()", x.image(), 2);
        Texts.promise(x, "free from 5 to 5");
        x.put(0, 2);
        x.put(1, 1);
        x.hands(4, 2);
        x.known(1, 9);
        x.turn(2, 1);
        x.swap(1, 0);
        x.work(0);
        x.mend(0, 0);
        x.act(1, 0, 3);
        about = 41;
        due("restore()", x.restore(), 2);
        int[] status = {2, 2, 0, 0, 0, 2};
        for (int i = 0; i < 6; i++) due("status(" + i + ")", x.status(i), status[i]);
        due("trace(1)", x.trace(1), 10);
        due("status(16)", x.status(16), 1);
        due("promiseOf(0, 7)", x.promiseOf(0, 7), 8);
        due("promiseOf(0, 11)", x.promiseOf(0, 11), 0);
        due("promiseOf(1, 4)", x.promiseOf(1, 4), -1);
        due("holds(0)", x.holds(0), -1);
        due("holds(1)", x.holds(1), 1);
        due("holds(7)", x.holds(7), 100);
        due("hands(4, 1)", x.hands(4, 1), 1);
        due("known(1, 0)", x.known(1, 0), 0);
        due("turn(2, 1)", x.turn(2, 1), 0);
        x.work(1);
        due("restore() a second time", x.restore(), 2);
        due("promiseOf(0, 10)", x.promiseOf(0, 10), 1);
        about = 40;
        x.work(1);
        due("image()", x.image(), 2);
        x.work(2);
        due("restore()", x.restore(), 2);
        due("status(3)", x.status(3), 1);
        due("promiseOf(1, 10)", x.promiseOf(1, 10), 1);
        due("promiseOf(0, 10)", x.promiseOf(0, 10), 0);
    }

    private static void statuses() {
        about = 42;
        KeptPromises x = with("do 1 from 0 to 0", "free from 9 to 9");
        x.turn(1, 1);
        x.work(0);
        x.put(0, 1);
        x.put(9, 0);
        x.set(0, 0, 0);
        x.set(1, 0, 0);
        x.row(1, 0, -1);
        x.begin();
        x.row(1, 0, 61);
        x.can(8);
        int[] told = {2, 1, 1, 1, 2, 0, -1, -1, -1, -1, -1, 1, 1, 1, 1, 1, 1, 1, -1};
        for (int i = 0; i < told.length; i++) due("status(" + i + ")", x.status(i), told[i]);
        due("status(-1)", x.status(-1), -1);
        x.trace(-1);
        x.holds(9);
        x.element(9, 9);
        x.act(9, 9, 9);
        x.status(99);
        x.trap();
        for (int i = 11; i <= 17; i++) due("status(" + i + ") as before", x.status(i), 1);
    }

    private static void endOfAll() {
        KeptPromises x = with("do 1 from 0 to 11 if 0=1 owe 5", "do 1 from 11 to 11 owe 3");
        for (int h = 0; h < 11; h++) x.work(0);
        x.work(2);
        about = 16;
        due("can(0)", x.can(0), 1);
        due("can(1)", x.can(1), 1);
        about = 17;
        due("hour(0, 11)", x.hour(0, 11), -5);
        due("hour(0, 12)", x.hour(0, 12), -5);
        about = 18;
        due("all()", x.all(), 1);
        about = 19;
        due("begin()", x.begin(), -5);
        about = 20;
        due("trap()", x.trap(), -1);
        about = 22;
        due("dear(1)", x.dear(1), 0);
        about = 24;
        due("ends(0, 1)", x.ends(0, 1), -5);
        about = 25;
        due("must(0)", x.must(0), -5);
        about = 26;
        due("spare(0)", x.spare(0), 0);
        due("spare(1)", x.spare(1), -1);
        about = 9;
        read(x, "free from 11 to 11", -6, -1);
    }
}
