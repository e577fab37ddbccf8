/** Promises 18 to 26, 30 and 35: the best plan, what it proves, and what would be. */
public final class PlansTest {
    private static final int NONE = TwoTierStore.NONE;
    private static final int NO_PROOF = -1000000000;
    private static final String ONCE = "room 4;rule once;item a 2 6 1;item bo 2 2 1;item c 4 4 2;item d 5 9 3;";
    private static final String RENT = "room 4;item a 2 6 3;item bo 2 2 1;item c 4 4 2;item d 5 9 3;";

    public static void main(String[] args) {
        withoutRequests();
        promises18to21();
        promise18Rent();
        promise19LeastSets();
        promise20AsItWas();
        promise22();
        promise23();
        promise24();
        promise25();
        promise26();
        promise30();
        promise35();
        Check.finish();
    }

    private static TwoTierStore asked(String store, String names) {
        TwoTierStore x = Check.made(store);
        Check.names(x, names);
        return x;
    }

    private static String plans(TwoTierStore x, int what) {
        StringBuilder row = new StringBuilder();
        for (int i = 0; i < x.now(6); i++) {
            row.append(i == 0 ? "" : " ").append(x.plan(i, what));
        }
        return row.toString();
    }

    private static void withoutRequests() {
        TwoTierStore x = Check.made(ONCE);
        x.carry(0, 1);
        Check.due("best()", x.best(), NONE);
        Check.due("plan(0, 0)", x.plan(0, 0), NONE);
        Check.due("potential(0)", x.potential(0), NONE);
        Check.due("proof(0)", x.proof(0), NO_PROOF);
        Check.due("bestWith(0)", x.bestWith(0), NONE);
        Check.due("upTo(0)", x.upTo(0), NONE);
        Check.due("ratio()", x.ratio(), NONE);
        Check.due("would(0)", x.would(0), 0);
        Check.due("curve(4, 0)", x.curve(4, 0), 0);
        Check.due("curve(4, 1)", x.curve(4, 1), 0);
    }

    private static void promises18to21() {
        TwoTierStore x = asked(ONCE, "a;bo;c;d;");
        Check.due("best()", x.best(), 15);
        Check.row("what it pays", plans(x, 0), "6 2 4 3");
        Check.row("its sets", plans(x, 1), "1 2 4 0");
        int[] potential = {1080, 1440, 720, 720};
        int[] proof = {0, 0, 1440, 540};
        for (int i = 0; i < 4; i++) {
            Check.due("potential(" + i + ")", x.potential(i), potential[i]);
            Check.due("proof(" + i + ")", x.proof(i), proof[i]);
        }
        int[] bad = {-1, 4, Integer.MAX_VALUE, Integer.MIN_VALUE};
        for (int i : bad) {
            Check.due("plan(" + i + ", 0)", x.plan(i, 0), NONE);
            Check.due("potential(" + i + ")", x.potential(i), NONE);
            Check.due("proof(" + i + ")", x.proof(i), NO_PROOF);
            Check.due("upTo(" + i + ")", x.upTo(i), NONE);
        }
        Check.due("plan(0, 2)", x.plan(0, 2), NONE);
        Check.due("plan(0, -1)", x.plan(0, -1), NONE);
        x.request(0);
        Check.due("best() of one more", x.best(), 21);
        Check.row("its sets", plans(x, 1), "1 2 4 0 1");
        x.undo();
        x.request(1);
        Check.due("best() of another", x.best(), 17);
        Check.row("its sets", plans(x, 1), "1 2 4 0 2");
        x.image(0);
        x.room(2);
        Check.names(x, "a;");
        Check.row("by ROOM 2", x.best() + " " + plans(x, 1), "6 1");
        x.rule(1);
        Check.names(x, "a;bo;");
        Check.row("by rent", x.best() + " " + plans(x, 1), "2 0 0");
        x.restore(0);
        Check.row("as kept", x.best() + " " + plans(x, 1), "17 1 2 4 0 2");
    }

    private static void promise18Rent() {
        // b alone is worth its PRICE; a and c are rented.
        TwoTierStore x = asked("room 4;item a 2 6 3;item b 2 2 1;item c 4 9 2;", "b;a;b;c;b;b;");
        Check.due("best()", x.best(), 7);
        Check.row("what it pays", plans(x, 0), "2 3 0 2 0 0");
        Check.row("its sets", plans(x, 1), "2 2 2 2 2 2");
    }

    private static void promise19LeastSets() {
        // PRICE and two RENTS are the same, so all plans that pay 2 are like; the least sets are empty ones.
        TwoTierStore x = asked("room 4;item a 2 2 1;item b 2 9 1;", "a;a;");
        Check.row("its sets", plans(x, 1), "0 0");
        Check.row("what it pays", plans(x, 0), "1 1");
        // Three RENTS are dearer: the last set must have a, and then all.
        TwoTierStore y = asked("room 4;item a 2 2 1;item b 2 9 1;", "a;a;a;b;");
        Check.row("its sets", plans(y, 1), "1 1 1 0");
        // b is let down for a, as they fill the shelf both; from the last one back b is dropped as soon as may be.
        TwoTierStore z = asked("room 2;rule once;item a 2 3 1;item b 2 3 1;", "b;b;a;");
        Check.row("its sets", plans(z, 1), "2 2 1");
    }

    private static void promise20AsItWas() {
        TwoTierStore x = asked("room 3;rule once;item a 1 2 1;item b 2 3 1;", "a;b;");
        // behind 1: DENSITIES a 120, b 90; CREDITS 120 and 180; the plan's sets are a, b
        Check.row("its sets", plans(x, 1), "1 2");
        Check.due("potential(1)", x.potential(1), 600);
        x.carry(0, 0);
        Check.due("as it was behind it", x.potential(1), 600);
        TwoTierStore y = asked("room 3;item a 1 2 1;", "a;a;a;a;");
        // a goes UP in REQUEST 1, the plan has it from the first on
        Check.due("potential(0), asked for first", y.potential(0), 360);
        y.request(0);
        Check.due("proof(0), asked for first", y.proof(0), -60);
        Check.row("its sets", plans(y, 1), "1 1 1 1 1");
        Check.due("a plan's ITEM on SLOW", y.potential(0), 360);
        Check.due("behind UP", y.potential(1), 240);
        Check.due("proof(0)", y.proof(0), 60 * 3 * 2 - 60 - 360);
        Check.due("proof(1)", y.proof(1), -60 * 3 - (240 - 360));
    }

    private static void promise22() {
        TwoTierStore x = asked(RENT, "a;bo;a;c;");
        // with a: 6, bo 1 (or its PRICE 2), c 2; with bo: 2, a 3 + 3 or 6, c 2; with c: 4, a 3, bo 1, a 3
        Check.row("bestWith", x.bestWith(0) + " " + x.bestWith(1) + " " + x.bestWith(2) + " " + x.bestWith(3), "9 10 11 -1");
        Check.due("no such ITEM", x.bestWith(4), NONE);
        Check.due("no such ITEM", x.bestWith(-1), NONE);
        TwoTierStore y = asked(ONCE, "a;bo;d;");
        Check.due("a and bo fit both", y.bestWith(0), 6 + 2 + 3);
        Check.due("bo ahead of its REQUEST", y.bestWith(1), 6 + 2 + 3);
        Check.due("c lets no other in", y.bestWith(2), NONE);
        Check.due("d is too big", y.bestWith(3), NONE);
    }

    private static void promise23() {
        TwoTierStore x = Check.made("item a 2 5 2;item b 6 60 1;item c 6 40 1;item d 6 41 1;item e 6 9 1;");
        Check.row("rent", x.soon(0) + " " + x.soon(1) + " " + x.soon(2) + " " + x.soon(3) + " " + x.soon(4), "3 -1 40 -1 9");
        x.request(0);
        Check.due("rent that was counted", x.soon(0), 2);
        Check.due("nothing is changed", x.item(0, 4), 2);
        x.carry(0, 1);
        Check.due("on FAST", x.soon(0), 0);
        Check.due("no such ITEM", x.soon(5), NONE);
        Check.due("no such ITEM", x.soon(-1), NONE);
        x.rule(0);
        Check.due("once", x.soon(1), 1);
        x.room(5);
        Check.due("too big", x.soon(1), NONE);
        x.room(6);
        x.rule(2);
        // heat by 1 never comes to 8; 1, 1.875, 2.640625 by 2
        Check.row("heat", x.soon(0) + " " + x.soon(1) + " " + x.soon(4), "3 -1 -1");
        x.request(0);
        Check.due("heat that is there", x.soon(0), 2);
        Check.due("the LOG does not matter", x.drawn(40, 3) >= 0 && x.now(6) == 40 && x.soon(1) == NONE, true);
        Check.due("nothing is asked for", x.now(6), 40);
    }

    private static void promise24() {
        TwoTierStore x = asked("room 6;rule once;item a 2 2 1;item b 2 4 1;item c 2 6 1;item d 3 8 1;item e 6 1 1;item f 1 1 1;", "c;a;b;");
        Check.due("two make way", x.victims(3), 3);
        Check.due("all make way", x.victims(4), 7);
        Check.due("one makes way", x.victims(5), 1);
        Check.due("it is on FAST", x.victims(0), NONE);
        Check.due("no such ITEM", x.victims(6), NONE);
        Check.due("no such ITEM", x.victims(-1), NONE);
        Check.row("nothing is changed", x.now(3) + " " + x.item(0, 3) + " " + x.now(8), "7 60 0");
        x.carry(0, 0);
        Check.due("there is room", x.victims(5), 0);
        x.room(5);
        Check.due("too big", x.victims(4), NONE);
    }

    private static void promise25() {
        TwoTierStore x = asked(RENT, "a;a;a;c;c;c;");
        // a: 3, 6 (rented or UP), 6; then c: 2, 4, 4
        Check.row("upTo", x.upTo(0) + " " + x.upTo(1) + " " + x.upTo(2) + " " + x.upTo(3) + " " + x.upTo(4) + " " + x.upTo(5), "3 6 6 8 10 10");
        Check.due("best()", x.best(), 10);
    }

    private static void promise26() {
        TwoTierStore x = asked(RENT, "a;a;bo;bo;a;d;");
        // a 3, 9, bo 1, 3, a 0, d 3 in ROOM 4
        Check.due("ROOM as it is", x.curve(4, 0), 19);
        Check.due("ROOM 5: d can go UP, but does not yet", x.curve(5, 0), 19);
        Check.due("ROOM 1: all is rented", x.curve(1, 0), 3 + 3 + 1 + 1 + 3 + 3);
        Check.due("ROOM 2: bo makes a go", x.curve(2, 0), 3 + 9 + 1 + 3 + 3 + 3);
        Check.due("a BEST PLAN by ROOM 1", x.curve(1, 1), 14);
        Check.due("a BEST PLAN by ROOM 2", x.curve(2, 1), 6 + 2 + 3);
        Check.due("a BEST PLAN by ROOM 4", x.curve(4, 1), x.best());
        Check.due("curve(0, 0)", x.curve(0, 0), NONE);
        Check.due("curve(21, 0)", x.curve(21, 0), NONE);
        Check.due("curve(20, 0)", x.curve(20, 0), 19);
        Check.due("curve(4, 2)", x.curve(4, 2), NONE);
        Check.due("curve(4, -1)", x.curve(4, -1), NONE);
        Check.row("nothing is changed", x.now(0) + " " + x.now(3) + " " + x.now(5) + " " + x.now(6) + " " + x.best(), "4 3 19 6 11");
        x.rule(0);
        Check.names(x, "d;a;");
        Check.due("by once d goes UP where it can", x.curve(5, 1), 9 + 6);
        Check.due("by once d is rented where it can't", x.curve(4, 1), 3 + 6);
    }

    private static void promise30() {
        TwoTierStore x = asked("item a 2 5 2;item b 6 4 1;", "a;a;a;b;b;b;b;");
        Check.due("19 by 9", x.ratio(), Float.floatToIntBits(19f / 9f));
        x.carry(0, 1);
        Check.due("carry() is not in the LOG", x.ratio(), Float.floatToIntBits(19f / 9f));
        x.rule(0);
        x.carry(0, 1);
        x.request(0);
        Check.due("nothing PAID in the LOG", x.ratio(), 0);
        TwoTierStore one = asked("item a 1 1 1;", "a;");
        Check.due("BEST of 1", one.ratio(), Float.floatToIntBits(2f));
        for (int seed = 0; seed < 40; seed++) {
            TwoTierStore y = Check.made("room 5;item a 2 7 3;item b 3 5 2;item c 4 11 3;");
            int paid = y.drawn(5 + seed % 36, seed);
            Check.due("ratio() by seed " + seed, y.ratio(), Float.floatToIntBits((float) paid / (float) y.best()));
        }
    }

    private static void promise35() {
        TwoTierStore x = asked(RENT, "a;a;bo;bo;a;d;");
        Check.due("would(0)", x.would(0), 6 + 2 + 3);
        Check.due("would(1)", x.would(1), 19);
        // HEAT by RENT: a 3, 5.6; bo 1, 1.875; a 1.875 * 0.669.. + 1 by 3 is 6.7..; d 3
        Check.due("would(2)", x.would(2), 3 + 3 + 1 + 1 + 9 + 3);
        Check.due("would(3)", x.would(3), NONE);
        Check.due("would(-1)", x.would(-1), NONE);
        Check.row("nothing is changed", x.now(1) + " " + x.now(3) + " " + x.now(5) + " " + x.now(6), "1 3 19 6");
        x.rule(0);
        x.carry(0, 1);
        x.request(0);
        Check.due("from an empty shelf", x.would(0), 6);
    }
}
