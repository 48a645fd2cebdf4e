import java.util.ArrayList;
import java.util.HashMap;
import java.util.HashSet;
import java.util.List;
import java.util.Map;
import java.util.regex.Matcher;
import java.util.regex.Pattern;

/**
 * The document told a second time, as plainly as its words go and with no care for speed, to
 * compare the program with. It shares nothing with the program: spans are kept one by one, ways
 * to break are walked hour by hour with the lost ones kept, rows are read by patterns.
 */
final class Plain {
    static final int NONE = -1;

    static final class Pledge implements Cloneable {
        int kind, p, q, thing = -1, after = -1, fork = -1, how, owed, whom, each, length, left;
        boolean lost;
        boolean[] spans = new boolean[3];

        Pledge twin() {
            try {
                Pledge t = (Pledge) clone();
                t.spans = spans.clone();
                return t;
            } catch (CloneNotSupportedException e) {
                throw new IllegalStateException();
            }
        }

        boolean isWork() {
            return kind >= 1 && kind <= 4;
        }

        boolean asked(int outcome) {
            return fork < 0 || ((outcome >> fork) & 1) == how;
        }

        boolean has(int h) {
            return p <= h && h <= q;
        }

        int span(int h) {
            return (h - p) / each;
        }
    }

    /** How the works stand in one hour. */
    static final class Standing {
        int[] left = new int[9];
        boolean[] lost = new boolean[9];
        boolean[][] spans = new boolean[9][3];

        Standing twin() {
            Standing t = new Standing();
            for (int i = 0; i < 9; i++) {
                t.left[i] = left[i];
                t.lost[i] = lost[i];
                for (int k = 0; k < 3; k++) {
                    t.spans[i][k] = spans[i][k];
                }
            }
            return t;
        }

        /** Six bits for each of the works. */
        long key(List<Pledge> all) {
            long k = 1;
            for (int i = 0; i < all.size(); i++) {
                if (!all.get(i).isWork()) continue;
                k = k * 4 + left[i];
                k = k * 2 + (lost[i] ? 1 : 0);
                for (int j = 0; j < 3; j++) {
                    k = k * 2 + (spans[i][j] ? 1 : 0);
                }
            }
            return k;
        }
    }

    List<Pledge> all = new ArrayList<>();
    int now = 0;
    int[] hands = new int[12];
    int[] known = new int[3];
    int turned = 0;

    List<Pledge> imageAll = null;
    int imageNow, imageTurned;
    int[] imageHands, imageKnown;

    int[] content = new int[8];
    long[][] cells = new long[8][];
    int[] refused = new int[8];
    int fault = NONE;
    List<Integer> trace = new ArrayList<>();

    Plain() {
        java.util.Arrays.fill(hands, 1);
        java.util.Arrays.fill(content, NONE);
    }

    int no(int why) {
        refused[-why]++;
        return why;
    }

    boolean shelf(int s) {
        return s >= 0 && s <= 7;
    }

    boolean promiseThere(int n) {
        return n >= 0 && n < all.size();
    }

    boolean workThere(int n) {
        return promiseThere(n) && all.get(n).isWork();
    }

    boolean outcomeThere(int o) {
        return o >= 0 && o <= 7;
    }

    // ---- rows

    int row(int s, int sort, int n) {
        if (!shelf(s)) return no(-1);
        if (n < 0) return no(-4);
        if (sort < 0 || sort > 3) return no(-6);
        if (n > 60) return no(-7);
        content[s] = 100 + sort;
        cells[s] = new long[n];
        return 1;
    }

    int set(int s, int i, long v) {
        if (!shelf(s)) return no(-1);
        if (content[s] >= 0 && content[s] < 100) return no(-2);
        if (content[s] < 0) return no(-3);
        if (i < 0 || i >= cells[s].length) return no(-5);
        int bits = new int[] {8, 16, 32, 64}[content[s] - 100];
        cells[s][i] = v << (64 - bits) >> (64 - bits);
        return 1;
    }

    int copy(int p, int q, int i, int j, int n) {
        if (!shelf(p) || !shelf(q)) return no(-1);
        int a = content[p], b = content[q];
        if (a >= 0 && a < 100 || b >= 0 && b < 100) return no(-2);
        if (a >= 100 && b >= 100 && a != b) return no(-2);
        if (a < 0 || b < 0) return no(-3);
        if (n < 0) return no(-4);
        if (i < 0 || j < 0 || (long) i + n > cells[p].length || (long) j + n > cells[q].length) return no(-5);
        long[] source = cells[p].clone();
        for (int k = 0; k < n; k++) cells[q][j + k] = source[i + k];
        return 1;
    }

    long element(int s, int i) {
        if (!shelf(s) || content[s] < 100 || i < 0 || i >= cells[s].length) return 0;
        return cells[s][i];
    }

    int put(int s, int promise) {
        if (!shelf(s) || promise != NONE && !promiseThere(promise)) return no(-1);
        content[s] = promise;
        return promise == NONE ? 0 : 1;
    }

    int holds(int s) {
        return shelf(s) ? content[s] : NONE;
    }

    int says(int s, int kind) {
        if (!shelf(s) || kind < 0 || kind > 6) return no(-1);
        if (content[s] >= 100) return no(-2);
        if (content[s] < 0) return no(-3);
        Pledge p = all.get(content[s]);
        boolean fits = kind == 0 || kind == p.kind || kind == 1 && p.isWork();
        if (!fits) return no(-2);
        if (kind == 0) return p.whom;
        if (kind == 1 || kind == 4) return p.length;
        if (kind == 2 || kind == 3) return p.left;
        return kind == 5 ? p.thing : p.q - p.p + 1;
    }

    // ---- reading

    static final String REST =
        "(?: with (?<thing>\\d))?(?: after (?<after>\\d))?";
    static final String TAIL = "(?: owe (?<owe>\\d\\d?))?(?: for (?<for>\\d))?";
    static final String HOURS = " from (?<p>\\d\\d?) to (?<q>\\d\\d?)";
    static final String MAYIF = "(?: if (?<fork>\\d)=(?<how>\\d))?";
    static final Pattern[] FORMS = {
        Pattern.compile("(?<head>do|whole|again) (?<n>\\d)" + HOURS + REST + MAYIF + TAIL),
        Pattern.compile("(?<head>once) (?<n>\\d)" + HOURS + REST + " if (?<fork>\\d)=(?<how>\\d)" + TAIL),
        Pattern.compile("(?<head>never) (?<n>\\d)" + HOURS + MAYIF + TAIL),
        Pattern.compile("(?<head>free)" + HOURS + MAYIF + TAIL),
    };

    String text(long[] row) {
        StringBuilder b = new StringBuilder();
        for (long v : row) {
            int c = (int) v;
            b.append(c >= 0 && c < 128 ? (char) c : '#');
        }
        return b.toString();
    }

    static boolean begins(Pattern form, String s) {
        Matcher m = form.matcher(s);
        return m.matches() || m.hitEnd();
    }

    /** The first place where no form goes on; the length if one could still go on. */
    static int firstUnfit(String s) {
        for (int n = 1; n <= s.length(); n++) {
            boolean goes = false;
            for (Pattern f : FORMS) goes |= begins(f, s.substring(0, n));
            if (!goes) return n - 1;
        }
        return s.length();
    }

    /** Looks at the number that stands at the named place of the longest part that goes on. */
    Pledge parsed(long[] row) {
        String s = text(row);
        int unfit = firstUnfit(s);
        String good = s.substring(0, unfit);
        fault = NONE;
        int bad = wrongNumber(good);
        if (bad >= 0) {
            fault = bad;
            return null;
        }
        for (Pattern f : FORMS) {
            Matcher m = f.matcher(s);
            if (m.matches()) return built(m, f);
        }
        fault = unfit;
        return null;
    }

    static int find(String s, String word, int from) {
        int at = s.indexOf(word, from);
        return at < 0 ? -1 : at + word.length();
    }

    static int numberAt(String s, int at, int digits) {
        int n = 0;
        while (n < digits && at + n < s.length() && Character.isDigit(s.charAt(at + n))) n++;
        return n == 0 ? -1 : Integer.parseInt(s.substring(at, at + n));
    }

    int wrongNumber(String s) {
        int blank = s.indexOf(' ');
        String head = blank < 0 ? s : s.substring(0, blank);
        int at, n = 0, p, q;
        if (!head.equals("free") && blank >= 0) {
            at = blank + 1;
            n = numberAt(s, at, 1);
            if (n < 0) return -1;
            int low = head.equals("never") ? 0 : 1, high = head.equals("again") ? 6 : 3;
            if (n < low || n > high) return at;
        }
        at = find(s, " from ", 0);
        if (at < 0) return -1;
        p = numberAt(s, at, 2);
        if (p < 0) return -1;
        if (p > 11) return at;
        at = find(s, " to ", 0);
        if (at < 0) return -1;
        q = numberAt(s, at, 2);
        if (q < 0) return -1;
        if (q > 11 || q < p) return at;
        if (head.equals("again") && (q - p) / n + 1 > 3) return at;
        if ((head.equals("do") || head.equals("whole") || head.equals("once")) && q - p + 1 < n) return at;
        at = find(s, " with ", 0);
        if (at >= 0 && numberAt(s, at, 1) > 3) return at;
        at = find(s, " after ", 0);
        if (at >= 0 && numberAt(s, at, 1) >= 0 && !workThere(numberAt(s, at, 1))) return at;
        at = find(s, " if ", 0);
        if (at >= 0 && numberAt(s, at, 1) > 2) return at;
        at = find(s, "=", 0);
        if (at >= 0 && numberAt(s, at, 1) > 1) return at;
        at = find(s, " for ", 0);
        if (at >= 0 && numberAt(s, at, 1) > 5) return at;
        return -1;
    }

    static int group(Matcher m, Pattern f, String name, int otherwise) {
        if (!f.pattern().contains("<" + name + ">") || m.group(name) == null) return otherwise;
        return Integer.parseInt(m.group(name));
    }

    Pledge built(Matcher m, Pattern f) {
        Pledge x = new Pledge();
        String head = m.group("head");
        x.kind = head.equals("do") ? 1 : head.equals("whole") ? 2 : head.equals("again") ? 3
            : head.equals("once") ? 4 : head.equals("never") ? 5 : 6;
        int n = group(m, f, "n", 0);
        x.p = group(m, f, "p", 0);
        x.q = group(m, f, "q", 0);
        x.thing = x.kind == 5 ? n : group(m, f, "thing", -1);
        x.after = group(m, f, "after", -1);
        x.fork = group(m, f, "fork", -1);
        x.how = group(m, f, "how", 0);
        x.owed = group(m, f, "owe", 0);
        x.whom = group(m, f, "for", 0);
        if (x.kind == 3) {
            x.each = n;
            for (int h = x.p; h <= x.q; h++) x.length = x.span(h) + 1;
        } else if (x.isWork()) {
            x.length = n;
        }
        x.left = x.length;
        return x;
    }

    int roomFor(Pledge x) {
        int works = 0;
        for (Pledge y : all) works += y.isWork() ? 1 : 0;
        return x.isWork() ? 6 - works : 3 - (all.size() - works);
    }

    Pledge latest;

    int reading(int s) {
        if (!shelf(s)) return -1;
        if (content[s] >= 0 && content[s] < 100) return -2;
        if (content[s] < 0) return -3;
        latest = parsed(cells[s]);
        if (latest == null || latest.p < now) return -6;
        return 0;
    }

    int promise(int s) {
        int why = reading(s);
        if (why == 0 && roomFor(latest) <= 0) why = -7;
        if (why != 0) return no(why);
        all.add(latest);
        return all.size() - 1;
    }

    int fault() {
        return fault;
    }

    int promiseOf(int n, int what) {
        if (!promiseThere(n) || what < 0 || what > 11) return no(-5);
        Pledge x = all.get(n);
        int[] told = {x.kind, x.p, x.q, x.thing, x.after, x.fork, x.how, x.owed, x.whom, x.length,
            x.left, x.lost ? 1 : 0};
        return told[what];
    }

    int hands(int hour, int n) {
        if (hour < 0 || hour > 11) return no(-1);
        if (n < 0 || n > 2) return no(-6);
        int was = hands[hour];
        hands[hour] = n;
        return was;
    }

    int known(int fork, int hour) {
        if (fork < 0 || fork > 2 || hour < 0 || hour > 11) return no(-1);
        int was = known[fork];
        known[fork] = hour;
        return was;
    }

    int turn(int fork, int v) {
        if (fork < 0 || fork > 2) return no(-1);
        boolean bad = v != 0 && v != 1 || known[fork] < now;
        for (Pledge x : all) bad |= x.fork == fork && x.p < now;
        if (bad) return no(-6);
        int was = (turned >> fork) & 1;
        turned = turned - (was << fork) + (v << fork);
        return was;
    }

    int swap(int n, int other) {
        if (!workThere(n) || other != NONE && !workThere(other)) {
            no(-1);
            return -11;
        }
        if (n == other) {
            no(-6);
            return -16;
        }
        int was = all.get(n).after;
        all.get(n).after = other;
        return was;
    }

    // ---- the rules of an hour

    boolean inRing(int n) {
        int at = all.get(n).after;
        for (int k = 0; k < 20 && at >= 0; k++) {
            if (at == n) return true;
            at = all.get(at).after;
        }
        return false;
    }

    boolean open(int n, int h, int outcome, Standing st, int meant) {
        Pledge x = all.get(n);
        if ((meant >> n & 1) == 0 || !x.has(h) || !x.asked(outcome)) return false;
        if (x.fork >= 0 && known[x.fork] > h) return false;
        if (st.left[n] <= 0 || st.lost[n] || inRing(n)) return false;
        if (x.after >= 0) {
            if ((meant >> x.after & 1) == 0) return false;
            if (st.left[x.after] != 0 || st.lost[x.after]) return false;
        }
        if (x.kind == 3) {
            if (st.spans[n][x.span(h)]) return false;
            for (int k = 0; k < x.span(h); k++) if (!st.spans[n][k]) return false;
        }
        return true;
    }

    /** 0: it may be done; or why not. */
    int why(int set, int h, int outcome, Standing st, int meant) {
        if (set >> all.size() != 0) return 1;
        for (int i = 0; i < all.size(); i++) {
            if ((set >> i & 1) != 0 && (!all.get(i).isWork() || !open(i, h, outcome, st, meant))) return 1;
        }
        if (Integer.bitCount(set) > hands[h]) return 2;
        for (int i = 0; i < all.size(); i++) {
            for (int j = 0; j < i; j++) {
                if ((set >> i & 1) != 0 && (set >> j & 1) != 0 && all.get(i).thing >= 0
                    && all.get(i).thing == all.get(j).thing) return 3;
            }
        }
        if (set != 0 && violated(6, set, h, outcome, meant) != 0) return 4;
        if (violated(5, set, h, outcome, meant) != 0) return 5;
        return 0;
    }

    int violated(int kind, int set, int h, int outcome, int meant) {
        int bits = 0;
        for (int j = 0; j < all.size(); j++) {
            Pledge y = all.get(j);
            if (y.kind != kind || (meant >> j & 1) == 0 || !y.has(h) || !y.asked(outcome)) continue;
            for (int i = 0; i < all.size(); i++) {
                if ((set >> i & 1) != 0 && (kind == 6 || all.get(i).thing == y.thing)) bits |= 1 << j;
            }
        }
        return bits;
    }

    /** The set is done, the hour ends: those that got lost (marked in the standing, too). */
    int finish(int set, int h, int outcome, Standing st, int meant) {
        int gone = 0;
        for (int i = 0; i < all.size(); i++) {
            Pledge x = all.get(i);
            if (!x.isWork()) continue;
            boolean done = (set >> i & 1) != 0;
            boolean begun = st.left[i] < x.length;
            if (done) {
                st.left[i]--;
                if (x.kind == 3) st.spans[i][x.span(h)] = true;
            }
            if ((meant >> i & 1) == 0 || !x.asked(outcome) || st.lost[i] || st.left[i] == 0) continue;
            boolean lose = x.q == h;
            if (x.kind == 2 && begun && !done) lose = true;
            if (x.kind == 3 && x.has(h)) {
                boolean spanEnds = h == x.q || x.span(h + 1) != x.span(h);
                if (spanEnds && !st.spans[i][x.span(h)]) lose = true;
            }
            if (lose) gone |= 1 << i;
        }
        for (int i = 0; i < all.size(); i++) if ((gone >> i & 1) != 0) st.lost[i] = true;
        return gone;
    }

    Standing present() {
        Standing st = new Standing();
        for (int i = 0; i < all.size(); i++) {
            st.left[i] = all.get(i).left;
            st.lost[i] = all.get(i).lost;
            st.spans[i] = all.get(i).spans.clone();
        }
        return st;
    }

    int everyone() {
        return (1 << all.size()) - 1;
    }

    List<Integer> smallSets() {
        List<Integer> sets = new ArrayList<>();
        for (int s = 0; s <= everyone(); s++) if (Integer.bitCount(s) <= 2) sets.add(s);
        return sets;
    }

    // ---- keepings

    Map<Long, int[]> memo = new HashMap<>();

    boolean noneLost(int meant) {
        for (int i = 0; i < all.size(); i++) if ((meant >> i & 1) != 0 && all.get(i).lost) return false;
        return true;
    }

    /** From an hour on: {whether there is a keeping, in which hours watched is done first}. */
    int[] keepings(int h, int outcome, Standing st, int meant, int watched) {
        if (h == 12) return new int[] {1, 0};
        long key = st.key(all) * 16 + h;
        int[] known = memo.get(key);
        if (known != null) return known;
        int is = 0, firsts = 0;
        for (int set : smallSets()) {
            if (why(set, h, outcome, st, meant) != 0) continue;
            Standing next = st.twin();
            if (finish(set, h, outcome, next, meant) != 0) continue;
            int[] rest = keepings(h + 1, outcome, next, meant, watched);
            if (rest[0] == 0) continue;
            is = 1;
            if (watched >= 0 && (set >> watched & 1) != 0 && st.left[watched] == all.get(watched).length) {
                firsts |= 1 << h;
            } else {
                firsts |= rest[1];
            }
        }
        int[] answer = {is, firsts};
        memo.put(key, answer);
        return answer;
    }

    boolean kept(int meant, int outcome) {
        memo.clear();
        return noneLost(meant) && keepings(now, outcome, present(), meant, -1)[0] == 1;
    }

    int can(int outcome) {
        if (!outcomeThere(outcome)) return no(-6);
        return kept(everyone(), outcome) ? 1 : 0;
    }

    int hour(int outcome, int hour) {
        if (!outcomeThere(outcome) || hour < now || hour > 11) return no(-5);
        if (!kept(everyone(), outcome)) return no(-5);
        Standing st = present();
        int answer = -1;
        for (int h = now; h <= hour; h++) {
            for (int set : smallSets()) {
                if (why(set, h, outcome, st, everyone()) != 0) continue;
                Standing next = st.twin();
                if (finish(set, h, outcome, next, everyone()) != 0) continue;
                if (keepings(h + 1, outcome, next, everyone(), -1)[0] == 0) continue;
                answer = set;
                st = next;
                break;
            }
        }
        return answer;
    }

    Map<Long, Boolean> planMemo = new HashMap<>();

    boolean agree(int a, int b, int h) {
        for (int f = 0; f < 3; f++) if (known[f] <= h && (a >> f & 1) != (b >> f & 1)) return false;
        return true;
    }

    /** Some outcomes that can't be told apart in the hour, as bits of a mask. */
    boolean plan(int h, int outcomes, Standing st, int only) {
        if (h == 12) return true;
        long key = (st.key(all) * 16 + h) * 256 + outcomes;
        Boolean was = only < 0 ? planMemo.get(key) : null;
        if (was != null) return was;
        boolean found = false;
        for (int set : smallSets()) {
            if (found || only >= 0 && set != only) continue;
            boolean may = true;
            Standing next = null;
            for (int o = 0; o < 8 && may; o++) {
                if ((outcomes >> o & 1) == 0) continue;
                may = why(set, h, o, st, everyone()) == 0;
                next = st.twin();
                may = may && finish(set, h, o, next, everyone()) == 0;
            }
            if (!may) continue;
            boolean goes = true;
            int rest = outcomes;
            while (rest != 0 && goes) {
                int one = Integer.numberOfTrailingZeros(rest);
                int part = 0;
                for (int o = 0; o < 8; o++) if ((rest >> o & 1) != 0 && agree(one, o, h + 1)) part |= 1 << o;
                goes = plan(h + 1, part, next, -1);
                rest &= ~part;
            }
            found = goes;
        }
        if (only < 0) planMemo.put(key, found);
        return found;
    }

    int outcomesNow() {
        int outcomes = 0;
        for (int o = 0; o < 8; o++) if (agree(o, turned, now)) outcomes |= 1 << o;
        return outcomes;
    }

    boolean borne() {
        planMemo.clear();
        return noneLost(everyone()) && plan(now, outcomesNow(), present(), -1);
    }

    int all() {
        return borne() ? 1 : 0;
    }

    int begin() {
        if (now == 12 || !borne()) return no(-5);
        for (int set : smallSets()) if (plan(now, outcomesNow(), present(), set)) return set;
        return -99;
    }

    int trap() {
        for (int o = 0; o < 8; o++) if (agree(o, turned, now) && !kept(everyone(), o)) return o;
        return NONE;
    }

    int quarrel(int outcome) {
        if (!outcomeThere(outcome)) return no(-6);
        if (kept(everyone(), outcome)) return 0;
        int stay = everyone();
        for (int i = 0; i < all.size(); i++) if (!kept(stay & ~(1 << i), outcome)) stay &= ~(1 << i);
        return stay;
    }

    Map<Long, Integer> costMemo = new HashMap<>();

    int cheapest(int h, int outcome, Standing st, int meant, boolean each) {
        if (h == 12) {
            int sum = 0;
            for (int i = 0; i < all.size(); i++) {
                if (st.lost[i] && all.get(i).asked(outcome)) sum += each ? 1 : all.get(i).owed;
            }
            return sum;
        }
        long key = st.key(all) * 16 + h;
        Integer was = costMemo.get(key);
        if (was != null) return was;
        int best = Integer.MAX_VALUE;
        for (int set : smallSets()) {
            if (why(set, h, outcome, st, meant) != 0) continue;
            Standing next = st.twin();
            finish(set, h, outcome, next, meant);
            best = Math.min(best, cheapest(h + 1, outcome, next, meant, each));
        }
        costMemo.put(key, best);
        return best;
    }

    int least(int outcome, boolean each) {
        if (!outcomeThere(outcome)) return no(-6);
        int best = Integer.MAX_VALUE;
        for (int broken = 0; broken <= everyone(); broken++) {
            int sum = 0;
            boolean fine = true;
            for (int i = 0; i < all.size(); i++) {
                if ((broken >> i & 1) == 0) continue;
                fine &= !all.get(i).isWork();
                if (all.get(i).asked(outcome)) sum += each ? 1 : all.get(i).owed;
            }
            if (!fine) continue;
            costMemo.clear();
            best = Math.min(best, sum + cheapest(now, outcome, present(), everyone() & ~broken, each));
        }
        return best;
    }

    int dear(int outcome) {
        return least(outcome, false);
    }

    int fewest(int outcome) {
        return least(outcome, true);
    }

    int ends(int n, int outcome) {
        if (!workThere(n) || !outcomeThere(outcome) || all.get(n).left < all.get(n).length) return no(-5);
        memo.clear();
        if (!noneLost(everyone())) return no(-5);
        int[] told = keepings(now, outcome, present(), everyone(), n);
        if (told[0] == 0 || told[1] == 0) return no(-5);
        return 100 * (31 - Integer.numberOfLeadingZeros(told[1])) + Integer.numberOfTrailingZeros(told[1]);
    }

    int must(int outcome) {
        if (!outcomeThere(outcome) || now == 12 || !kept(everyone(), outcome)) return no(-5);
        int common = everyone();
        for (int set : smallSets()) {
            if (why(set, now, outcome, present(), everyone()) != 0) continue;
            Standing next = present();
            if (finish(set, now, outcome, next, everyone()) != 0) continue;
            if (keepings(now + 1, outcome, next, everyone(), -1)[0] == 1) common &= set;
        }
        return common;
    }

    int spare(int outcome) {
        if (!outcomeThere(outcome)) {
            no(-6);
            return -1000;
        }
        int sum = 0;
        for (int h = now; h < 12; h++) sum += hands[h];
        for (Pledge x : all) if (x.isWork() && x.asked(outcome) && !x.lost) sum -= x.left;
        return sum;
    }

    int doomed(int n, int outcome) {
        if (!workThere(n)) return no(-1);
        if (!outcomeThere(outcome)) return no(-6);
        int set = 0;
        for (int at = n; at >= 0 && (set >> at & 1) == 0; at = all.get(at).after) set |= 1 << at;
        return kept(set, outcome) ? 0 : 1;
    }

    int give(int s) {
        int why = reading(s);
        if (why == 0 && roomFor(latest) <= 0) why = -7;
        if (why != 0) return no(why);
        all.add(latest);
        boolean is = borne();
        all.remove(all.size() - 1);
        return is ? 1 : 0;
    }

    int many(int s) {
        int why = reading(s);
        if (why != 0) return no(why);
        int room = roomFor(latest), most = 0, size = all.size();
        for (int k = 1; k <= room; k++) {
            all.add(latest.twin());
            if (!borne()) break;
            most = k;
        }
        while (all.size() > size) all.remove(all.size() - 1);
        return most;
    }

    int ring() {
        int bits = 0;
        for (int i = 0; i < all.size(); i++) if (inRing(i)) bits |= 1 << i;
        return bits;
    }

    int opening() {
        int fewest = 99;
        int[] afters = new int[all.size()];
        for (int i = 0; i < all.size(); i++) afters[i] = all.get(i).after;
        for (int cut = 0; cut <= everyone(); cut++) {
            for (int i = 0; i < all.size(); i++) all.get(i).after = (cut >> i & 1) != 0 ? -1 : afters[i];
            if (ring() == 0) fewest = Math.min(fewest, Integer.bitCount(cut));
        }
        for (int i = 0; i < all.size(); i++) all.get(i).after = afters[i];
        return fewest;
    }

    // ---- told by hand

    int clash, toldLost;

    int telling(int s, int outcome, int whom) {
        if (!shelf(s) || whom < 0 || whom > 5) return -1;
        if (content[s] >= 0 && content[s] < 100) return -2;
        if (content[s] < 0) return -3;
        if (!outcomeThere(outcome)) return -6;
        Standing st = new Standing();
        for (int i = 0; i < all.size(); i++) st.left[i] = all.get(i).length;
        clash = NONE;
        int broken = 0;
        for (int h = 0; h < 12; h++) {
            int set = h < cells[s].length ? (int) cells[s][h] : 0;
            int why = why(set, h, outcome, st, everyone());
            if (why != 0 && clash == NONE) clash = 10 * h + why;
            if (why == 4) broken |= violated(6, set, h, outcome, everyone());
            if (why == 5) broken |= violated(5, set, h, outcome, everyone());
            finish(why == 0 ? set : 0, h, outcome, st, everyone());
        }
        toldLost = broken;
        for (int i = 0; i < all.size(); i++) if (st.lost[i]) toldLost |= 1 << i;
        return 0;
    }

    int judge(int s, int outcome) {
        int why = telling(s, outcome, 0);
        if (why != 0) {
            no(why);
            return why - 10;
        }
        return clash;
    }

    int lost(int s, int outcome) {
        int why = telling(s, outcome, 0);
        return why != 0 ? no(why) : toldLost;
    }

    int owed(int s, int outcome, int whom) {
        int why = telling(s, outcome, whom);
        if (why != 0) return no(why);
        int sum = 0;
        for (int i = 0; i < all.size(); i++) {
            if ((toldLost >> i & 1) != 0 && all.get(i).whom == whom) sum += all.get(i).owed;
        }
        return sum;
    }

    // ---- hours that go by

    int work(int set) {
        if (now == 12 || why(set, now, turned, present(), everyone()) != 0) return no(-6);
        Standing st = present();
        int gone = finish(set, now, turned, st, everyone());
        for (int i = 0; i < all.size(); i++) {
            all.get(i).left = st.left[i];
            all.get(i).lost = st.lost[i];
            all.get(i).spans = st.spans[i];
        }
        now++;
        return gone;
    }

    int debt(int whom) {
        if (whom < 0 || whom > 5) return no(-1);
        int sum = 0;
        for (Pledge x : all) if (x.lost && x.whom == whom) sum += x.owed;
        return sum;
    }

    int mend(int n, int how) {
        if (!promiseThere(n)) return no(-1);
        Pledge x = all.get(n);
        if (how < 0 || how > 2 || !x.lost) return no(-6);
        if (how == 0) x.owed /= 2;
        if (how == 1) x.owed = Math.min(99, 2 * x.owed);
        if (how == 2) x.owed = 0;
        return x.owed;
    }

    // ---- acts: the kinds as classes, as the document's words have them

    class Promise {
        final int m, k;

        Promise(int m, int k) {
            this.m = m;
            this.k = k;
        }

        int needs(int x) {
            trace.add(10);
            return x + m;
        }

        int costs(int x) {
            trace.add(11);
            return needs(x) * 2;
        }

        int ends(int x) {
            trace.add(12);
            return costs(x) ^ needs(x - k);
        }
    }

    class Act extends Promise {
        Act(int m, int k) {
            super(m, k);
        }

        @Override int needs(int x) {
            trace.add(20);
            return super.needs(x) * 3;
        }
    }

    class Whole extends Act {
        Whole(int m, int k) {
            super(m, k);
        }

        @Override int costs(int x) {
            trace.add(30);
            return super.costs(x) + k;
        }
    }

    class Again extends Act {
        Again(int m, int k) {
            super(m, k);
        }

        @Override int ends(int x) {
            trace.add(40);
            return super.ends(x + 1);
        }
    }

    class Once extends Act {
        Once(int m, int k) {
            super(m, k);
        }

        @Override int needs(int x) {
            trace.add(50);
            return -super.needs(x);
        }
    }

    class Never extends Promise {
        Never(int m, int k) {
            super(m, k);
        }

        @Override int ends(int x) {
            trace.add(60);
            return super.ends(x) - m;
        }
    }

    class Free extends Promise {
        Free(int m, int k) {
            super(m, k);
        }

        @Override int costs(int x) {
            trace.add(70);
            return super.costs(x) ^ 5;
        }
    }

    int act(int n, int act, int x) {
        trace.clear();
        if (!promiseThere(n) || act < 0 || act > 2) return 0;
        int k = all.get(n).owed;
        Promise p;
        switch (all.get(n).kind) {
            case 1: p = new Act(n, k); break;
            case 2: p = new Whole(n, k); break;
            case 3: p = new Again(n, k); break;
            case 4: p = new Once(n, k); break;
            case 5: p = new Never(n, k); break;
            default: p = new Free(n, k); break;
        }
        return act == 0 ? p.needs(x) : act == 1 ? p.costs(x) : p.ends(x);
    }

    int trace(int i) {
        return i >= 0 && i < 20 && i < trace.size() ? trace.get(i) : NONE;
    }

    // ---- the image

    int image() {
        imageAll = new ArrayList<>();
        for (Pledge x : all) imageAll.add(x.twin());
        imageNow = now;
        imageTurned = turned;
        imageHands = hands.clone();
        imageKnown = known.clone();
        return all.size();
    }

    int restore() {
        if (imageAll == null) return no(-6);
        all = new ArrayList<>();
        for (Pledge x : imageAll) all.add(x.twin());
        now = imageNow;
        turned = imageTurned;
        hands = imageHands.clone();
        known = imageKnown.clone();
        for (int s = 0; s < 8; s++) if (content[s] >= 0 && content[s] < 100 && !promiseThere(content[s])) content[s] = NONE;
        return all.size();
    }

    int status(int what) {
        int works = 0, lost = 0;
        for (Pledge x : all) {
            works += x.isWork() ? 1 : 0;
            lost += x.lost ? 1 : 0;
        }
        int[] first = {all.size(), works, lost, now, turned, trace.size()};
        if (what >= 0 && what <= 5) return first[what];
        return what >= 11 && what <= 17 ? refused[what - 10] : NONE;
    }
}
