import java.util.Random;

/** Runs of calls made up at random, each answer compared with the plain telling of the document. */
public final class ComparedTest {
    private static final String[] QUESTIONS = {"can", "hour", "all", "begin", "trap", "quarrel", "dear",
        "fewest", "ends", "must", "spare", "doomed", "give", "many", "ring", "opening", "promiseOf",
        "says", "status", "fault", "debt", "act", "holds", "element"};
    private static final String[] CHANGES = {"promise", "promise", "promise", "promise", "hands", "hands",
        "known", "known", "turn", "swap", "work", "work", "mend", "image", "restore", "put", "copy", "set",
        "row", "told"};

    /** What later calls of an object answer is free; the last step and the end take fewer than 100. */
    private static final int MOST_CALLS = 512;

    private final Random r;
    private final int run;
    private final KeptPromises x = new KeptPromises();
    private final Plain y = new Plain();
    private int calls = 0;
    private int wrong = 0;

    private ComparedTest(int run) {
        this.run = run;
        this.r = new Random(run);
    }

    /** Few hours, many forks that get known as they go by. */
    private void unsure() {
        for (int f = 0; f < 3; f++) {
            int h = r.nextInt(5);
            same("known", x.known(f, h), y.known(f, h));
            int v = r.nextInt(2);
            same("turn", x.turn(f, v), y.turn(f, v));
        }
        for (int h = 0; h < 6; h++) {
            int n = r.nextInt(4) == 0 ? 2 : 1;
            same("hands", x.hands(h, n), y.hands(h, n));
        }
        for (int k = 3 + r.nextInt(5); k > 0 && calls < 260; k--) {
            write(0, 0, Texts.unsure(r, y.all.size()));
            same("promise", x.promise(0), y.promise(0));
            same("all", x.all(), y.all());
            same("begin", x.begin(), y.begin());
        }
        for (int h = 0; h < 3; h++) {
            int set = Math.max(0, y.begin());
            same("begin", x.begin(), y.begin());
            same("work", x.work(set), y.work(set));
            write(0, 0, Texts.unsure(r, y.all.size()));
            same("give", x.give(0), y.give(0));
            same("many", x.many(0), y.many(0));
        }
    }

    public static void main(String[] args) {
        int runs = args.length > 0 ? Integer.parseInt(args[0]) : 6000;
        int first = args.length > 1 ? Integer.parseInt(args[1]) : 0;
        int wrong = 0;
        long calls = 0;
        for (int run = first; run < first + runs; run++) {
            ComparedTest t = new ComparedTest(run);
            if (run % 4 == 3) t.unsure();
            else t.go();
            wrong += t.wrong;
            calls += t.calls;
            if (t.calls > MOST_CALLS) throw new IllegalStateException("run " + run + " has " + t.calls + " calls");
        }
        System.out.println("ComparedTest: " + calls + " calls compared, " + wrong + " wrong");
        if (wrong > 0 || calls == 0) System.exit(1);
    }

    private void same(String call, long got, long want) {
        calls++;
        if (got != want) {
            wrong++;
            if (wrong < 5) System.out.println("run " + run + ", call " + calls + ": " + call + " answered " + got + ", due is " + want);
        }
    }

    private void go() {
        for (int k = r.nextInt(4); k > 0; k--) change("known");
        for (int k = r.nextInt(r.nextInt(2) == 0 ? 12 : 2); k > 0; k--) change("hands");
        for (int k = r.nextInt(10); k > 0 && calls < 260; k--) change("promise");
        for (int k = r.nextInt(4) == 0 ? 8 : 0; k > 0; k--) change("swap");
        for (int k = 0; k < 3; k++) change("put");
        int steps = 30 + r.nextInt(40);
        for (int k = 0; k < steps && wrong == 0 && calls < MOST_CALLS - 100; k++) {
            if (r.nextInt(4) == 0) {
                change(CHANGES[r.nextInt(CHANGES.length)]);
            } else {
                ask(QUESTIONS[r.nextInt(QUESTIONS.length)]);
            }
        }
        for (int what = 0; what <= 18; what++) same("status", x.status(what), y.status(what));
    }

    private void hour() {
        int set = r.nextInt(3) == 0 ? r.nextInt(64) : 0;
        if (r.nextBoolean() && y.now < 12 && y.kept(y.everyone(), y.turned)) {
            set = y.hour(y.turned, y.now);
            same("hour now", x.hour(y.turned, y.now), set);
        } else if (r.nextBoolean()) {
            set = 1 << r.nextInt(9);
        }
        if (r.nextInt(40) == 0) set = -1 - r.nextInt(3);
        same("work(" + set + ")", x.work(set), y.work(set));
    }

    /** Most often from 0 to below the bound, now and then beside it. */
    private int some(int bound) {
        int odd = r.nextInt(40);
        return odd == 0 ? -1 - r.nextInt(2) : odd == 1 ? bound + r.nextInt(3) : r.nextInt(Math.max(bound, 1));
    }

    private int someWork() {
        int n = some(y.all.size());
        for (int k = 0; k < 4 && !y.workThere(n) && r.nextInt(9) > 0; k++) n = some(y.all.size());
        return n;
    }

    private int someSmall(int bound) {
        return r.nextInt(40) == 0 ? bound : r.nextInt(bound);
    }

    private void write(int s, int sort, String text) {
        same("row", x.row(s, sort, text.length()), y.row(s, sort, text.length()));
        for (int i = 0; i < text.length(); i++) {
            long v = text.charAt(i) + (sort == 3 && r.nextInt(9) == 0 ? 1L << 33 : 0);
            put(s, i, v);
        }
    }

    private void put(int s, int i, long v) {
        calls++;
        x.set(s, i, v);
        y.set(s, i, v);
    }

    private int textShelf() {
        if (r.nextInt(12) == 0) return some(8);
        String text = Texts.madeUp(r, y.all.size(), y.now);
        if (r.nextInt(5) == 0) text = Texts.spoilt(r, text);
        int s = r.nextInt(3);
        write(s, r.nextInt(4), text);
        return s;
    }

    private void change(String what) {
        int a = some(y.all.size());
        switch (what) {
            case "promise": {
                int s = textShelf();
                same("promise(" + s + ")", x.promise(s), y.promise(s));
                same("fault", x.fault(), y.fault());
                break;
            }
            case "hands": {
                int h = some(12), n = someSmall(3);
                same("hands", x.hands(h, n), y.hands(h, n));
                break;
            }
            case "known": {
                int f = some(3), h = some(r.nextBoolean() ? 12 : 5);
                same("known", x.known(f, h), y.known(f, h));
                break;
            }
            case "turn": {
                int f = some(3), v = some(2);
                same("turn", x.turn(f, v), y.turn(f, v));
                break;
            }
            case "swap": {
                int n = someWork(), b = r.nextInt(4) == 0 ? -1 : someWork();
                same("swap", x.swap(n, b), y.swap(n, b));
                break;
            }
            case "work":
                for (int k = r.nextInt(4); k >= 0; k--) hour();
                break;
            case "mend": {
                int how = some(3);
                for (int n = 0; n < y.all.size(); n++) if (y.all.get(n).lost && r.nextBoolean()) a = n;
                same("mend", x.mend(a, how), y.mend(a, how));
                break;
            }
            case "image":
                if (r.nextInt(3) == 0) same("image", x.image(), y.image());
                break;
            case "restore":
                if (r.nextInt(3) == 0) same("restore", x.restore(), y.restore());
                break;
            case "told": {
                tell();
                break;
            }
            default:
                changeShelf(what);
                break;
        }
    }

    private void changeShelf(String what) {
        int s = some(8);
        switch (what) {
            case "put": {
                int n = r.nextInt(5) == 0 ? -1 : some(y.all.size());
                same("put", x.put(s, n), y.put(s, n));
                break;
            }
            case "copy": {
                int q = some(8), i = some(10), j = some(10), n = some(9);
                same("copy", x.copy(s, q, i, j, n), y.copy(s, q, i, j, n));
                break;
            }
            case "set": {
                int i = some(12);
                long v = r.nextLong();
                same("set", x.set(s, i, v), y.set(s, i, v));
                break;
            }
            default: {
                int sort = some(4), n = r.nextInt(20) == 0 ? 59 + r.nextInt(4) : some(14);
                same("row", x.row(s, sort, n), y.row(s, sort, n));
                break;
            }
        }
    }

    private void tell() {
        int s = 3 + r.nextInt(3);
        int n = r.nextInt(3) == 0 ? r.nextInt(15) : 12;
        int o = some(8), w = some(6);
        write(s, r.nextInt(4), "\0".repeat(n));
        boolean good = y.outcomeThere(o) && y.now == 0 && y.kept(y.everyone(), o);
        for (int h = 0; h < n; h++) {
            long v = r.nextInt(3) == 0 ? r.nextInt(1 << Math.max(1, y.all.size())) : 0;
            if (r.nextInt(4) == 0) v = 1L << r.nextInt(9);
            if (good && h < 12 && r.nextInt(6) > 0) v = y.hour(o, h);
            if (r.nextInt(60) == 0) v = r.nextLong();
            put(s, h, v);
        }
        int t = r.nextInt(12) == 0 ? some(8) : s;
        same("judge", x.judge(t, o), y.judge(t, o));
        same("lost", x.lost(t, o), y.lost(t, o));
        same("owed", x.owed(t, o, w), y.owed(t, o, w));
    }

    private void ask(String what) {
        int a = r.nextInt(4) == 0 ? some(y.all.size()) : someWork(), o = some(8), h = some(12), s = some(8);
        switch (what) {
            case "can": same("can(" + o + ")", x.can(o), y.can(o)); break;
            case "hour": same("hour(" + o + ", " + h + ")", x.hour(o, h), y.hour(o, h)); break;
            case "all": same("all", x.all(), y.all()); break;
            case "begin": same("begin", x.begin(), y.begin()); break;
            case "trap": same("trap", x.trap(), y.trap()); break;
            case "quarrel": same("quarrel(" + o + ")", x.quarrel(o), y.quarrel(o)); break;
            case "dear": same("dear(" + o + ")", x.dear(o), y.dear(o)); break;
            case "fewest": same("fewest(" + o + ")", x.fewest(o), y.fewest(o)); break;
            case "ends": same("ends(" + a + ", " + o + ")", x.ends(a, o), y.ends(a, o)); break;
            case "must": same("must(" + o + ")", x.must(o), y.must(o)); break;
            case "spare": same("spare(" + o + ")", x.spare(o), y.spare(o)); break;
            case "doomed": same("doomed(" + a + ", " + o + ")", x.doomed(a, o), y.doomed(a, o)); break;
            case "give":
            case "many": {
                int t = textShelf();
                if (what.equals("give")) same("give", x.give(t), y.give(t));
                else same("many", x.many(t), y.many(t));
                same("fault", x.fault(), y.fault());
                break;
            }
            case "ring": same("ring", x.ring(), y.ring()); break;
            case "opening": same("opening", x.opening(), y.opening()); break;
            case "promiseOf":
                for (int k = -1; k <= 12; k++) same("promiseOf(" + a + ", " + k + ")", x.promiseOf(a, k), y.promiseOf(a, k));
                break;
            case "says":
                for (int k = -1; k <= 7; k++) same("says(" + s + ", " + k + ")", x.says(s, k), y.says(s, k));
                break;
            case "debt": same("debt", x.debt(o), y.debt(o)); break;
            case "act": {
                int act = some(3), v = r.nextInt();
                same("act(" + a + ", " + act + ")", x.act(a, act, v), y.act(a, act, v));
                for (int k = -1; k < 10; k++) same("trace", x.trace(k), y.trace(k));
                same("status(5)", x.status(5), y.status(5));
                break;
            }
            case "holds": same("holds", x.holds(s), y.holds(s)); break;
            case "element": same("element", x.element(s, h), y.element(s, h)); break;
            case "status": same("status(" + h + ")", x.status(h), y.status(h)); break;
            default: same("fault", x.fault(), y.fault()); break;
        }
    }
}
