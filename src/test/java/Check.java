/** What the tests share: answers against those that are due, and texts on the tape. */
final class Check {
    private static int checks = 0;
    private static int wrong = 0;
    /** What is tested now, printed ahead of each answer that is wrong. */
    private static String about = "";

    private Check() {
    }

    static void about(String what) {
        about = what.isEmpty() ? "" : what + ": ";
    }

    static int checks() {
        return checks;
    }

    static void due(String call, long got, long want) {
        checks++;
        if (got != want) {
            wrong++;
            System.out.println(about + call + " answered " + got + ", due is " + want);
        }
    }

    static void due(String call, boolean got, boolean want) {
        due(call, got ? 1 : 0, want ? 1 : 0);
    }

    static int wrong() {
        return wrong;
    }

    static void finish() {
        System.out.println(checks + " answers looked at, " + wrong + " wrong");
        System.exit(wrong == 0 ? 0 : 1);
    }

    /** Puts a text on an empty tape. */
    static void tape(TwoTierStore x, String text) {
        x.end(0);
        for (int at = 0; at < text.length(); at += 20) {
            x.feed(number(text, at), number(text, at + 4), number(text, at + 8), number(text, at + 12), number(text, at + 16));
        }
        x.end(text.length());
    }

    static int number(String text, int at) {
        int n = 0;
        for (int i = at; i < at + 4; i++) {
            n = n << 8 | (i < text.length() ? text.charAt(i) & 255 : 0);
        }
        return n;
    }

    static int store(TwoTierStore x, String text) {
        tape(x, text);
        return x.store();
    }

    static int names(TwoTierStore x, String text) {
        tape(x, text);
        return x.names();
    }

    static TwoTierStore made(String text) {
        TwoTierStore x = new TwoTierStore();
        if (store(x, text) < 0) {
            due("store of \"" + text + "\" has a fault", x.fault(), 0);
        }
        return x;
    }

    /** All of a picture as a text. */
    static String picture(TwoTierStore x) {
        StringBuilder signs = new StringBuilder();
        int n = x.picture();
        for (int i = 0; i < n; i++) {
            signs.append((char) x.byteAt(i));
        }
        return signs.toString();
    }

    /** Each answer of a row, joined by blanks, against one text: rows of small numbers are easier to read so. */
    static void row(String call, String got, String want) {
        checks++;
        if (!got.equals(want)) {
            wrong++;
            System.out.println(about + call + " answered [" + got + "], due is [" + want + "]");
        }
    }

    static String gates(TwoTierStore x) {
        StringBuilder all = new StringBuilder();
        for (int i = 0; i < 70 && x.gate(i) != TwoTierStore.NONE; i++) {
            all.append(x.gate(i));
        }
        return all.toString();
    }

    /** The lines of a BOOK: kind, ITEM, amount each. */
    static String lines(TwoTierStore x, int k) {
        StringBuilder all = new StringBuilder();
        for (int i = 0; i < 30 && x.line(k, i, 0) != TwoTierStore.NONE; i++) {
            all.append(i == 0 ? "" : " ").append(x.line(k, i, 0)).append(',').append(x.line(k, i, 1)).append(',').append(x.line(k, i, 2));
        }
        return all.toString();
    }

    static String booked(TwoTierStore x, int k) {
        StringBuilder all = new StringBuilder();
        for (int what = 0; what < 6; what++) {
            all.append(what == 0 ? "" : " ").append(x.booked(k, what));
        }
        return all.toString();
    }

    static String rides(TwoTierStore x) {
        StringBuilder all = new StringBuilder();
        for (int i = 0; i < 10 && x.ride(i) != TwoTierStore.NONE; i++) {
            all.append(i == 0 ? "" : " ").append(x.ride(i));
        }
        return all.toString();
    }
}
