import java.util.Random;

/** Puts texts into shelves, and makes texts up. */
final class Texts {
    private Texts() {
    }

    static void write(KeptPromises x, int s, int sort, String text) {
        x.row(s, sort, text.length());
        for (int i = 0; i < text.length(); i++) {
            x.set(s, i, text.charAt(i));
        }
    }

    static int promise(KeptPromises x, String text) {
        write(x, 7, 0, text);
        return x.promise(7);
    }

    /** A text that is most often a promise; works is how many numbers an after may name. */
    static String madeUp(Random r, int named, int now) {
        int kind = r.nextInt(8);
        int p = Math.min(11, (r.nextInt(4) > 0 ? now : 0) + r.nextInt(5));
        int q = Math.min(r.nextInt(30) == 0 ? 13 : 11, p + r.nextInt(7) - (r.nextInt(20) == 0 ? 2 : 0));
        StringBuilder b = new StringBuilder();
        if (kind < 2) b.append("do ").append(1 + few(r));
        if (kind == 2) b.append("whole ").append(1 + few(r));
        if (kind == 3 || kind == 4) b.append("again ").append(1 + r.nextInt(4));
        if (kind == 5) b.append("once ").append(1 + few(r));
        if (kind == 6) b.append("never ").append(r.nextInt(20) == 0 ? 4 : r.nextInt(3));
        if (kind == 7) b.append("free");
        if (kind == 7 && q - p > 1) q = p + 1;
        b.append(" from ").append(p).append(" to ").append(Math.max(q, 0));
        if (kind < 6 && r.nextInt(3) == 0) b.append(" with ").append(r.nextInt(r.nextInt(9) == 0 ? 5 : 3));
        if (kind < 6 && named > 0 && r.nextInt(3) == 0) b.append(" after ").append(r.nextInt(named));
        if (kind == 5 ? r.nextInt(20) > 0 : r.nextInt(3) == 0) {
            b.append(" if ").append(r.nextInt(r.nextInt(9) == 0 ? 4 : 3)).append("=").append(r.nextInt(r.nextInt(9) == 0 ? 3 : 2));
        }
        if (r.nextInt(3) > 0) b.append(" owe ").append(r.nextInt(r.nextInt(9) == 0 ? 120 : 20));
        if (r.nextInt(3) == 0) b.append(" for ").append(r.nextInt(r.nextInt(9) == 0 ? 8 : 6));
        return b.toString();
    }

    /** A promise of the first hours, most often with a fork. */
    static String unsure(Random r, int named) {
        String[] heads = {"do 1", "do 1", "do 2", "whole 2", "again 2", "again 3", "once 1", "never 0", "free"};
        int kind = r.nextInt(heads.length);
        int p = kind == 6 ? 1 + r.nextInt(4) : r.nextInt(4);
        int q = kind >= 7 ? p : p + 1 + r.nextInt(4);
        StringBuilder b = new StringBuilder(heads[kind]).append(" from ").append(p).append(" to ").append(q);
        if (kind < 7 && r.nextInt(3) == 0) b.append(" with 0");
        if (kind < 7 && named > 0 && r.nextInt(3) == 0) b.append(" after ").append(r.nextInt(named));
        if (kind == 6 || r.nextInt(3) > 0) b.append(" if ").append(r.nextInt(3)).append("=").append(r.nextInt(2));
        return b.toString();
    }

    private static int few(Random r) {
        return r.nextInt(8) == 0 ? 2 + r.nextInt(2) : r.nextInt(2);
    }

    static String spoilt(Random r, String text) {
        StringBuilder b = new StringBuilder(text);
        String letters = "0123456789 =adefhilnortuvwgcs";
        for (int times = 1 + r.nextInt(2); times > 0; times--) {
            int at = r.nextInt(b.length() + 1);
            char c = letters.charAt(r.nextInt(letters.length()));
            switch (r.nextInt(4)) {
                case 0: b.insert(at, c); break;
                case 1: if (at < b.length()) b.deleteCharAt(at); break;
                case 2: if (at < b.length()) b.setCharAt(at, c); break;
                default: b.setLength(at); break;
            }
        }
        return b.length() > 60 ? b.substring(0, 60) : b.toString();
    }
}
