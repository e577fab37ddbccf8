import java.util.Random;

/** Long runs of drawn calls, on the class and on the model: every answer must be the same. */
public final class ModelTest {
    private static final int RUNS = 800;
    private static final int CALLS = 512;
    private static final String[] WORDS = {"a", "b", "cc", "bread", "milk", "once", "heat", "zzzzzz", "d", "e", "f"};

    private final Random random;
    private final TwoTierStore x = new TwoTierStore();
    private final Model m = new Model();
    private final int run;
    private int calls;

    private ModelTest(int run) {
        this.run = run;
        random = new Random(run);
    }

    public static void main(String[] args) {
        for (int run = 0; run < RUNS && Check.wrong() < 20; run++) {
            new ModelTest(run).play();
        }
        Check.finish();
    }

    private void play() {
        text(storeText());
        same("store()", x.store(), m.store());
        while (calls < CALLS && Check.wrong() < 20) {
            m.call();
            one();
        }
    }

    private void same(String call, long got, long want) {
        calls++;
        Check.due("run " + run + " call " + calls + ": " + call, got, want);
        m.call();
    }

    private void same(String call, boolean got, boolean want) {
        same(call, got ? 1 : 0, want ? 1 : 0);
    }

    private int upTo(int n) {
        return random.nextInt(n + 1);
    }

    /** Most often within 0 to n - 1, at times beside it. */
    private int near(int n) {
        int kind = random.nextInt(12);
        return kind == 0 ? n : kind == 1 ? -1 : kind == 2 && random.nextInt(9) == 0 ? random.nextInt() : upTo(Math.max(0, n - 1));
    }

    private void one() {
        int n = m.w.items.size();
        int logged = m.w.log.size();
        switch (random.nextInt(40)) {
            case 0, 1, 2, 3, 4, 5 -> { int k = near(n); same("request(" + k + ")", x.request(k), m.request(k)); }
            case 6 -> { int c = near(14); int s = random.nextInt(); same("drawn(" + c + ", " + s + ")", x.drawn(c, s), m.drawn(c, s)); }
            case 7 -> { text(namesText()); same("names()", x.names(), m.names()); same("fault()", x.fault(), m.fault()); }
            case 8 -> store();
            case 9, 10 -> { int k = near(n); int u = near(2); same("carry(" + k + ", " + u + ")", x.carry(k, u), m.carry(k, u)); gates(); }
            case 11 -> anew();
            case 12 -> { int s = near(1 << n); int l = 1 + near(12); same("rides(" + s + ", " + l + ")", x.rides(s, l), m.rides(s, l)); rides(); }
            case 13 -> { int s = near(1 << n); int l = 1 + near(12); same("shift(" + s + ", " + l + ")", x.shift(s, l), m.shift(s, l)); rides(); gates(); }
            case 14 -> book();
            case 15 -> undo();
            case 16 -> images();
            case 17, 18 -> best(logged);
            case 19, 20 -> { int i = near(logged); int w = near(2); same("plan(" + i + ", " + w + ")", x.plan(i, w), m.plan(i, w)); }
            case 21 -> { int i = near(logged); same("potential(" + i + ")", x.potential(i), m.potential(i)); }
            case 22 -> { int i = near(logged); same("proof(" + i + ")", x.proof(i), m.proof(i)); }
            case 23 -> { int k = near(n); same("bestWith(" + k + ")", x.bestWith(k), m.bestWith(k)); }
            case 24 -> { int k = near(n); same("soon(" + k + ")", x.soon(k), m.soon(k)); same("victims(" + k + ")", x.victims(k), m.victims(k)); }
            case 25 -> { int r = near(21); int w = near(2); same("curve(" + r + ", " + w + ")", x.curve(r, w), m.curve(r, w)); }
            case 26 -> { int r = near(3); same("would(" + r + ")", x.would(r), m.would(r)); }
            case 27 -> { int k = near(n); int w = near(3); same("spent(" + k + ", " + w + ")", x.spent(k, w), m.spent(k, w)); }
            case 28 -> { same("picture()", x.picture(), m.picture()); }
            case 29 -> { int i = near(20); same("byteAt(" + i + ")", x.byteAt(i), m.byteAt(i)); }
            case 30 -> { int k = near(3); int w = near(6); same("booked(" + k + ", " + w + ")", x.booked(k, w), m.booked(k, w)); }
            case 31 -> { int k = near(3); int i = near(12); int w = near(3); same("line(" + k + ", " + i + ", " + w + ")", x.line(k, i, w), m.line(k, i, w)); }
            case 32 -> { int i = near(logged); int w = near(3); same("log(" + i + ", " + w + ")", x.log(i, w), m.log(i, w)); }
            case 33, 34, 35 -> { int k = near(n); int w = near(6); same("item(" + k + ", " + w + ")", x.item(k, w), m.item(k, w)); }
            case 36 -> { int e = near(30); same("end(" + e + ")", x.end(e), m.end(e)); }
            default -> { int w = near(10); same("now(" + w + ")", x.now(w), m.now(w)); }
        }
    }

    private void store() {
        if (random.nextInt(5) == 0) {
            text(storeText());
            same("store()", x.store(), m.store());
            same("fault()", x.fault(), m.fault());
        }
    }

    private void anew() {
        if (random.nextBoolean()) {
            int r = near(21);
            same("room(" + r + ")", x.room(r), m.room(r));
        } else {
            int r = near(3);
            same("rule(" + r + ")", x.rule(r), m.rule(r));
        }
    }

    private void book() {
        int k = near(3);
        int kind = near(4);
        int lines = near(random.nextBoolean() ? 31 : 5);
        same("book(" + k + ", " + kind + ", " + lines + ")", x.book(k, kind, lines), m.book(k, kind, lines));
    }

    private void undo() {
        for (int i = upTo(random.nextInt(8) == 0 ? 10 : 2); i >= 0; i--) {
            same("undo()", x.undo(), m.undo());
        }
        for (int k = 0; k < 3; k++) {
            same("booked(" + k + ", 0)", x.booked(k, 0), m.booked(k, 0));
        }
    }

    private void images() {
        int k = near(2);
        if (random.nextInt(3) == 0) {
            same("restore(" + k + ")", x.restore(k), m.restore(k));
        } else {
            same("image(" + k + ")", x.image(k), m.image(k));
        }
    }

    private void best(int logged) {
        same("best()", x.best(), m.best());
        same("ratio()", x.ratio(), m.ratio());
        int i = near(logged);
        same("upTo(" + i + ")", x.upTo(i), m.upTo(i));
    }

    private void gates() {
        int i = near(random.nextBoolean() ? 6 : 60);
        same("gate(" + i + ")", x.gate(i), m.gate(i));
    }

    private void rides() {
        int i = near(4);
        same("ride(" + i + ")", x.ride(i), m.ride(i));
    }

    // ---- texts ----

    private void text(String text) {
        if (random.nextInt(3) > 0) {
            same("end(0)", x.end(0), m.end(0));
        }
        int before = m.now(7);
        for (int at = 0; at < text.length(); at += 20) {
            int[] v = new int[5];
            for (int i = 0; i < 5; i++) {
                v[i] = Check.number(text, at + 4 * i);
            }
            same("feed(\"" + text.substring(at) + "\")", x.feed(v[0], v[1], v[2], v[3], v[4]), m.feed(v[0], v[1], v[2], v[3], v[4]));
        }
        int n = before + text.length();
        same("end(" + n + ")", x.end(n), m.end(n));
    }

    private String spoiled(String text) {
        if (random.nextInt(4) > 0 || text.isEmpty()) {
            return text;
        }
        String bits = " ;[]19a#0z\0" + (char) 233;
        int at = random.nextInt(text.length());
        char sign = bits.charAt(random.nextInt(bits.length()));
        int cut = random.nextInt(3);
        return cut == 2 ? text.substring(0, at) : text.substring(0, at) + sign + text.substring(at + cut);
    }

    private String blanks() {
        return " ".repeat(random.nextInt(6) == 0 ? random.nextInt(4) : 0);
    }

    private int bad(int low, int high) {
        return random.nextInt(60) == 0 ? (random.nextBoolean() ? low - 1 : high + 1) : low + random.nextInt(high - low + 1);
    }

    private String storeText() {
        StringBuilder text = new StringBuilder();
        int items = random.nextInt(8) == 0 ? 8 + random.nextInt(2) : 1 + random.nextInt(6);
        int shift = random.nextInt(3);
        int roomAt = random.nextInt(2 * items);
        int ruleAt = random.nextInt(2 * items);
        int mostPrice = random.nextBoolean() ? 60 : 8;
        int mostRent = random.nextBoolean() ? 20 : 3;
        for (int i = 0; i < items; i++) {
            if (i == roomAt || random.nextInt(80) == 0) {
                text.append("room ").append(bad(1, random.nextBoolean() ? 20 : 8)).append(blanks()).append(";");
            }
            if (i == ruleAt || random.nextInt(80) == 0) {
                text.append("rule ").append(new String[] {"once", "rent", "heat", "rent", "heat"}[random.nextInt(5)]).append(blanks()).append(";");
            }
            String name = WORDS[random.nextInt(60) == 0 ? random.nextInt(WORDS.length) : (i + shift) % WORDS.length];
            text.append(blanks()).append("item ").append(blanks()).append(random.nextInt(80) == 0 ? "again" : name).append(' ');
            text.append(bad(1, 6)).append(' ').append(bad(1, mostPrice)).append(' ').append(bad(1, mostRent)).append(blanks()).append(";");
        }
        return spoiled(text.toString());
    }

    private String namesText() {
        StringBuilder text = new StringBuilder();
        steps(text, 0);
        return spoiled(text.toString());
    }

    private void steps(StringBuilder text, int depth) {
        int n = random.nextInt(4);
        for (int i = 0; i < n; i++) {
            if (depth < 3 && random.nextInt(depth == 2 ? 12 : 3) == 0) {
                text.append("again ").append(bad(1, random.nextBoolean() ? 9 : 2)).append(blanks()).append('[');
                steps(text, depth + 1);
                text.append(']');
            } else if (!m.w.items.isEmpty() && random.nextInt(30) > 0) {
                text.append(m.w.items.get(random.nextInt(m.w.items.size())).name);
            } else {
                text.append(WORDS[random.nextInt(WORDS.length)]);
            }
            text.append(blanks()).append(';').append(blanks());
        }
    }
}
