/** The boundaries of PLAN and POTENTIAL ("Terms" 3) and of promises 18 to 26, 30 and 35: the best plan, and what would be. */
final class BoundsOfPlans {
    private static final int NONE = TwoTierStore.NONE;
    private static final int NO_PROOF = -1000000000;
    private static final int MOST = Integer.MAX_VALUE;
    private static final int LEAST = Integer.MIN_VALUE;
    /** a;a;b; PAYS 2, 5, 10; the BEST PLAN has a, a, nothing behind them and pays 3, 0, 5. */
    private static final String STORE = "room 2;item a 1 3 2;item b 2 5 5;";

    private BoundsOfPlans() {
    }

    static void all() {
        plans();
        likeOnes();
        potentials();
        best();
        plan();
        potential();
        proof();
        bestWith();
        soon();
        victims();
        upTo();
        curve();
        ratio();
        would();
    }

    private static TwoTierStore asked(String store, String names) {
        TwoTierStore x = Check.made(store);
        Check.names(x, names);
        return x;
    }

    private static String sets(TwoTierStore x) {
        return plans(x, 1);
    }

    private static String pays(TwoTierStore x) {
        return plans(x, 0);
    }

    private static String plans(TwoTierStore x, int what) {
        StringBuilder row = new StringBuilder();
        for (int i = 0; i < x.now(6); i++) {
            row.append(i == 0 ? "" : " ").append(x.plan(i, what));
        }
        return row.toString();
    }

    // ---- Terms 3 ----

    private static void plans() {
        Sentences.test("Terms 3", "PLAN for the LOG, by one who knows it, from an empty FAST shelf:");
        TwoTierStore x = Check.made("rule once;item a 1 5 1;");
        x.carry(0, 1);
        x.request(0);
        Check.row("what lies on FAST does not count", x.now(5) + " " + x.best() + " " + pays(x), "5 5 5");
        x.rule(1);
        x.carry(0, 1);
        x.request(0);
        Check.row("nor by rent", x.best() + " " + sets(x), "1 0");

        Sentences.test("Terms 3", "ahead of each REQUEST any ITEMS go DOWN (nothing is paid), then any go UP (PRICE each; never more than ROOM together);");
        String two = "rule once;item a 2 5 1;item b 2 7 1;";
        Check.due("both fit", asked("room 4;" + two, "a;b;a;b;").best(), 5 + 7);
        Check.due("one too little", asked("room 3;" + two, "a;b;a;b;").best(), 5 + 7 + 5 + 7);
        Check.due("one alone", asked("room 2;" + two, "a;a;b;").best(), 5 + 7);
        Check.due("none fits", asked("room 1;" + two, "a;b;a;b;").best(), 4);
        TwoTierStore y = asked("room 6;rule once;item a 3 5 1;item b 3 7 1;item c 6 2 1;", "a;b;c;a;b;");
        Check.row("two DOWN at once, then UP again", y.best() + " " + sets(y), "26 1 2 4 1 2");

        Sentences.test("Terms 3", "the ITEM asked for is on FAST then, or its RENT is paid");
        Check.row("one RENT is below PRICE", asked("item a 1 5 2;", "a;").best() + " " + asked("item a 1 5 2;", "a;a;").best(), "2 4");
        Check.row("three are above it", asked("item a 1 5 2;", "a;a;a;").best() + " " + pays(asked("item a 1 5 2;", "a;a;a;")), "5 5 0 0");
        Check.due("RENT above PRICE", asked("item a 1 5 20;", "a;").best(), 5);

        Sentences.test("Terms 3", "(RULE once: it must be on FAST, if its SIZE is not above ROOM).");
        Check.row("SIZE is ROOM", asked("room 5;rule once;item a 5 9 1;", "a;").best() + " " + sets(asked("room 5;rule once;item a 5 9 1;", "a;")), "9 1");
        Check.row("SIZE is above ROOM", asked("room 4;rule once;item a 5 9 1;", "a;").best() + " " + sets(asked("room 4;rule once;item a 5 9 1;", "a;")), "1 0");
        Check.due("by rent it need not be", asked("room 5;rule rent;item a 5 9 1;", "a;").best(), 1);
        Check.due("nor by heat", asked("room 5;rule heat;item a 5 9 1;", "a;").best(), 1);

        Sentences.test("Terms 3", "MUST: RULE is once.");
        Check.row("another must make way", sets(asked("room 2;rule once;item a 2 60 1;item b 2 1 1;", "a;b;a;")), "1 2 1");
        Check.row("by rent it need not", sets(asked("room 2;rule rent;item a 2 60 20;item b 2 1 1;", "a;a;a;b;a;")), "1 1 1 1 1");

        Sentences.test("Terms 3", "The BEST one pays least;");
        // to keep a, the dearer one, and to rent b is 60 and 2
        TwoTierStore z = asked("room 2;item a 2 60 20;item b 2 1 2;", "a;a;b;a;a;");
        Check.row("not the next step's cheapest", z.best() + " " + pays(z), "62 60 0 2 0 0");
    }

    private static void likeOnes() {
        Sentences.test("Terms 3", "of like ones the first by sets on FAST (bits) behind each REQUEST, from the last one back: the least number.");
        Check.row("two RENTS are PRICE: empty sets", sets(asked("item a 1 2 1;", "a;a;")), "0 0");
        Check.row("three are above PRICE: it stays, to the last", sets(asked("item a 1 2 1;", "a;a;a;")), "1 1 1");
        Check.row("as soon as it is not wanted, it goes", sets(asked("item a 1 2 1;item b 1 9 1;", "a;a;a;b;b;")), "1 1 1 0 0");
        Check.row("no sooner UP than it must", sets(asked("rule once;item a 1 2 1;item b 1 9 1;", "b;a;b;")), "2 3 2");
        // a kept and b rented, or b kept and a rented, is 7 both; the last set is 0 by the first of these
        TwoTierStore x = asked("room 1;item a 1 3 2;item b 1 3 2;", "a;b;a;b;");
        Check.row("the last set goes ahead of the first", x.best() + " " + sets(x) + " " + pays(x), "7 1 1 1 0 3 2 0 2");
        // likewise, where the last must have b: the sets ahead of it are the least
        TwoTierStore y = asked("room 1;item a 1 3 2;item b 1 3 2;", "a;b;a;b;b;");
        Check.row("b is kept", y.best() + " " + sets(y) + " " + pays(y), "7 0 2 2 2 2 2 3 2 0 0");
    }

    private static void potentials() {
        Sentences.test("Terms 3", "POTENTIAL behind REQUEST i: ROOM less 1 times all DENSITIES by SIZES on FAST,");
        TwoTierStore x = asked("room 1;rule once;item a 1 2 1;", "a;");
        Check.due("ROOM 1: nothing of it", x.potential(0), 0);
        TwoTierStore y = asked("room 20;item a 6 60 1;item b 1 1 1;", "b;");
        Check.due("ROOM 20, b alone", y.potential(0), 19 * 60);
        y.carry(0, 1);
        y.request(1);
        Check.due("by carry(), too", y.potential(1), 19 * (3600 + 60));

        Sentences.test("Terms 3", "and ROOM times, of each ITEM in the BEST PLAN's set, 60 PRICE less DENSITY by SIZE (0 for one on SLOW), as both were behind it.");
        TwoTierStore z = asked(STORE, "a;a;b;");
        Check.row("the plan", sets(z) + " " + pays(z), "1 1 0 3 0 5");
        Check.due("a on SLOW, but in the plan's set", z.potential(0), 2 * 180);
        Check.due("a on FAST and in the plan's set", z.potential(1), 180);
        Check.due("b on FAST, but not in the plan's set", z.potential(2), 300);
        z.carry(1, 0);
        z.carry(0, 1);
        Check.row("as both were behind it", z.potential(0) + " " + z.potential(1) + " " + z.potential(2), "360 180 300");
        // DENSITIES behind c: a 60, b 0 and gone; CREDITS a 120, c 360; the plan has a; a, b; a, c; a
        TwoTierStore w = asked("room 4;rule once;item a 2 4 1;item b 2 2 1;item c 2 6 1;", "a;b;c;a;");
        Check.row("the plan", sets(w), "1 3 5 1");
        Check.row("a sunk, then full again", w.potential(2) + " " + w.potential(3), 3 * (120 + 360) + 4 * 120 + " " + 3 * (240 + 360));
    }

    // ---- promises 18 to 21 ----

    private static void best() {
        Sentences.test("Promise 18", "BEST: what it pays; NONE: no REQUESTS in the LOG.");
        TwoTierStore x = Check.made(STORE);
        Check.due("no REQUESTS", x.best(), NONE);
        x.carry(0, 1);
        Check.due("a hand is none", x.best(), NONE);
        Check.due("a new object", new TwoTierStore().best(), NONE);
        x.carry(0, 0);
        x.request(0);
        Check.due("one", x.best(), 2);
        x.request(0);
        x.request(1);
        Check.due("three", x.best(), 8);
        x.undo();
        Check.due("two, one undone", x.best(), 3);
        x.room(3);
        Check.due("behind room()", x.best(), NONE);
        x.undo();
        Check.due("undone", x.best(), 3);
        Check.names(x, "again 9[again 9[a;];];");
        Check.due("forty", x.best(), 3);
        x.rule(0);
        Check.due("behind rule()", x.best(), NONE);
    }

    private static void plan() {
        Sentences.test("Promise 19", "Of the BEST PLAN at REQUEST i: what it pays (0), its set on FAST behind it (1).");
        TwoTierStore x = asked(STORE, "a;a;b;");
        Check.row("both", pays(x) + " " + sets(x), "3 0 5 1 1 0");
        Check.names(x, "again 9[again 9[b;];];");
        Check.row("40 REQUESTS", x.plan(2, 0) + " " + x.plan(2, 1) + " " + x.plan(39, 0) + " " + x.plan(39, 1), "5 2 0 2");
        TwoTierStore y = asked("room 8;rule once;item a 1 1 1;item b 1 1 1;item c 1 1 1;item d 1 1 1;item e 1 1 1;item f 1 1 1;item g 1 1 1;item h 1 1 1;",
            "a;b;c;d;e;f;g;h;a;b;c;d;e;f;g;h;");
        Check.row("all eight", y.best() + " " + y.plan(7, 1) + " " + y.plan(15, 1), "8 255 128");

        Sentences.test("Promise 19", "NONE: no such ones.");
        TwoTierStore z = asked(STORE, "a;a;b;");
        for (int i : new int[] {3, -1, MOST, LEAST}) {
            Check.due("plan(" + i + ", 0)", z.plan(i, 0), NONE);
            Check.due("plan(" + i + ", 1)", z.plan(i, 1), NONE);
        }
        for (int what : new int[] {2, -1, MOST, LEAST}) {
            Check.due("plan(0, " + what + ")", z.plan(0, what), NONE);
        }
        Check.due("no REQUESTS", Check.made(STORE).plan(0, 0), NONE);
    }

    private static void potential() {
        Sentences.test("Promise 20", "POTENTIAL behind REQUEST i; NONE: no such one.");
        TwoTierStore x = asked(STORE, "a;a;b;");
        Check.row("the first and the last", x.potential(0) + " " + x.potential(2), "360 300");
        for (int i : new int[] {3, -1, MOST, LEAST}) {
            Check.due("potential(" + i + ")", x.potential(i), NONE);
        }
        Check.due("no REQUESTS", Check.made(STORE).potential(0), NONE);
        x.undo();
        Check.due("undone", x.potential(0), NONE);
        TwoTierStore y = asked("room 8;rule once;item a 1 1 1;item b 1 1 1;item c 1 1 1;item d 1 1 1;item e 1 1 1;item f 1 1 1;item g 1 1 1;item h 1 1 1;",
            "again 5[a;b;c;d;e;f;g;h;];");
        // behind the last the plan has h alone, and all eight lie on FAST
        Check.row("of eight ITEMS, of 40 REQUESTS", y.potential(0) + " " + y.potential(7) + " " + y.potential(39), 7 * 60 + " " + 7 * 480 + " " + 7 * 480);
    }

    private static void proof() {
        Sentences.test("Promise 21", "60 times ROOM times what the BEST PLAN pays at REQUEST i, less 60 times what was PAID in it, less what the POTENTIAL grew by (it is 0 ahead of REQUEST 0);");
        TwoTierStore x = asked(STORE, "a;a;b;");
        Check.due("REQUEST 0", x.proof(0), 60 * 2 * 3 - 60 * 2 - 360);
        Check.due("REQUEST 1", x.proof(1), 0 - 60 * 5 - (180 - 360));
        Check.due("REQUEST 2", x.proof(2), 60 * 2 * 5 - 60 * 10 - (300 - 180));
        TwoTierStore y = asked("room 1;rule once;item a 1 60 1;item b 1 60 1;", "a;b;");
        Check.row("ROOM 1: all the same", y.proof(0) + " " + y.proof(1), "0 0");
        TwoTierStore z = asked("room 20;rule once;item a 6 60 1;", "a;a;");
        Check.row("ROOM 20", z.proof(0) + " " + z.proof(1), 60 * 20 * 60 - 60 * 60 - 19 * 3600 + " 0");

        Sentences.test("Promise 21", "-1000000000: no such one.");
        for (int i : new int[] {3, -1, MOST, LEAST}) {
            Check.due("proof(" + i + ")", x.proof(i), NO_PROOF);
        }
        Check.due("no REQUESTS", Check.made(STORE).proof(0), NO_PROOF);
    }

    // ---- promises 22 to 26 ----

    private static void bestWith() {
        Sentences.test("Promise 22", "The least that a PLAN pays in which an ITEM is on FAST behind each REQUEST;");
        TwoTierStore x = asked(STORE, "a;a;b;");
        Check.row("with a, with b", x.bestWith(0) + " " + x.bestWith(1), 3 + 5 + " " + (5 + 2 + 2));
        TwoTierStore y = asked("room 3;rule once;item a 1 3 2;item b 2 5 5;item c 2 7 1;", "b;b;");
        Check.row("a beside b; b; c is in its way", y.bestWith(0) + " " + y.bestWith(1) + " " + y.bestWith(2), "8 5 -1");
        TwoTierStore z = asked("room 4;rule once;item a 1 3 2;item b 2 5 5;item c 2 7 1;", "b;b;");
        Check.due("c beside b", z.bestWith(2), 12);

        Sentences.test("Promise 22", "NONE: there is none, no REQUESTS, no such ITEM.");
        Check.due("one above ROOM", asked("room 4;item a 5 3 2;", "a;").bestWith(0), NONE);
        Check.due("one of ROOM", asked("room 5;item a 5 3 2;", "a;").bestWith(0), 3);
        Check.due("by rent the other is rented", asked("room 2;item a 2 3 2;item b 2 5 5;", "a;b;").bestWith(0), 3 + 5);
        Check.due("by once it must be on FAST", asked("room 2;rule once;item a 2 3 2;item b 2 5 5;", "a;b;").bestWith(0), NONE);
        Check.due("by once, above ROOM, it need not be", asked("room 2;rule once;item a 2 3 2;item b 3 5 5;", "a;b;").bestWith(0), 3 + 5);
        Check.due("no REQUESTS", Check.made(STORE).bestWith(0), NONE);
        for (int k : new int[] {2, -1, MOST, LEAST}) {
            Check.due("bestWith(" + k + ")", x.bestWith(k), NONE);
        }
    }

    private static void soon() {
        Sentences.test("Promise 23", "Behind how many REQUESTS for it, one behind the other from now on (0 to 40; the LOG does not matter), an ITEM is on FAST;");
        TwoTierStore x = Check.made("item a 1 1 1;item b 1 2 1;item c 1 40 1;item d 1 41 1;");
        Check.row("1, 2, 40, 41", x.soon(0) + " " + x.soon(1) + " " + x.soon(2) + " " + x.soon(3), "1 2 40 -1");
        x.request(3);
        Check.row("41 less one", x.soon(2) + " " + x.soon(3), "40 40");
        x.carry(3, 1);
        Check.due("on FAST", x.soon(3), 0);
        Check.names(x, "again 9[again 9[d;];];");
        Check.row("the LOG is full", x.now(6) + " " + x.request(0) + " " + x.soon(0) + " " + x.soon(2), "40 -3 1 40");
        x.rule(0);
        Check.row("once", x.soon(2) + " " + x.soon(3), "1 1");
        TwoTierStore y = Check.made("rule heat;item a 1 15 8;item b 1 16 8;item c 1 7 1;item d 1 8 1;");
        Check.row("heat", y.soon(0) + " " + y.soon(1) + " " + y.soon(2) + " " + y.soon(3), "2 3 16 -1");

        Sentences.test("Promise 23", "NONE: in none, no such one.");
        TwoTierStore z = Check.made("room 2;rule once;item a 2 1 1;item b 3 1 1;");
        Check.row("of ROOM, above ROOM", z.soon(0) + " " + z.soon(1), "1 -1");
        for (int k : new int[] {2, -1, MOST, LEAST}) {
            Check.due("soon(" + k + ")", z.soon(k), NONE);
        }

        Sentences.test("Promise 23", "Nothing is changed.");
        TwoTierStore w = asked("room 2;item a 2 5 2;item b 2 4 2;", "a;a;a;b;");
        w.book(0, 0, 9);
        String ahead = seen(w);
        Check.due("soon(1)", w.soon(1), 1);
        Check.row("all of it", seen(w), ahead);
    }

    /** All that a call which changes nothing must leave as it is. */
    private static String seen(TwoTierStore x) {
        StringBuilder row = new StringBuilder(BoundsOfRequests.nows(x));
        for (int what = 3; what < 6; what++) {
            row.append(" / ").append(BoundsOfRequests.items(x, what));
        }
        return row.append(Check.gates(x)).append(Check.booked(x, 0)).append(x.best()).append(sets(x)).toString();
    }

    private static void victims() {
        Sentences.test("Promise 24", "ITEMS that would go DOWN to make way for an ITEM now, as bits;");
        TwoTierStore x = Check.made("room 6;item a 2 2 1;item b 2 4 1;item c 2 6 1;item d 2 9 1;item e 3 9 1;item f 6 9 1;");
        Check.row("an empty shelf", x.victims(0) + " " + x.victims(5), "0 0");
        x.shift(7, 40);
        Check.row("one, two, all", x.victims(3) + " " + x.victims(4) + " " + x.victims(5), "1 3 7");
        x.carry(2, 0);
        Check.row("just room, one too little", x.victims(3) + " " + x.victims(4), "0 1");

        Sentences.test("Promise 24", "NONE: it is on FAST, its SIZE is above ROOM, no such one.");
        Check.row("on FAST, on SLOW", x.victims(0) + " " + x.victims(2), "-1 0");
        x.room(5);
        Check.due("above ROOM", x.victims(5), NONE);
        x.room(6);
        Check.due("of ROOM", x.victims(5), 0);
        for (int k : new int[] {6, -1, MOST, LEAST}) {
            Check.due("victims(" + k + ")", x.victims(k), NONE);
        }

        Sentences.test("Promise 24", "Nothing is changed.");
        TwoTierStore w = asked("room 2;item a 2 5 2;item b 2 4 2;", "a;a;a;b;");
        w.book(0, 0, 9);
        String ahead = seen(w);
        Check.due("victims(1)", w.victims(1), 1);
        Check.row("all of it", seen(w), ahead);
    }

    private static void upTo() {
        Sentences.test("Promise 25", "What a BEST PLAN for REQUESTS 0 to i alone would pay; NONE: no such one.");
        TwoTierStore x = asked(STORE, "a;a;b;b;");
        Check.row("0 to 0, 1, 2, 3", x.upTo(0) + " " + x.upTo(1) + " " + x.upTo(2) + " " + x.upTo(3), "2 3 8 8");
        Check.due("all of them", x.upTo(3), x.best());
        for (int i : new int[] {4, -1, MOST, LEAST}) {
            Check.due("upTo(" + i + ")", x.upTo(i), NONE);
        }
        Check.due("no REQUESTS", Check.made(STORE).upTo(0), NONE);
        Check.names(x, "again 9[again 9[a;];];");
        Check.row("of 40", x.upTo(38) + " " + x.upTo(39) + " " + x.upTo(40), "11 11 -1");
    }

    private static void curve() {
        Sentences.test("Promise 26", "By ROOM n (1 to 20), the RULE as it is, from an empty FAST shelf, COUNTERS, HEAT 0: what the LOG would have cost (0), what a BEST PLAN would (1).");
        TwoTierStore x = asked("room 4;rule once;item a 2 5 1;item b 2 7 2;item c 1 3 1;", "a;b;a;b;c;");
        Check.row("ROOM 1 to 4, 5, 20", x.curve(1, 0) + " " + x.curve(2, 0) + " " + x.curve(3, 0) + " " + x.curve(4, 0) + " " + x.curve(5, 0) + " " + x.curve(20, 0),
            "9 27 27 15 15 15");
        Check.row("a BEST PLAN", x.curve(1, 1) + " " + x.curve(2, 1) + " " + x.curve(3, 1) + " " + x.curve(4, 1) + " " + x.curve(5, 1) + " " + x.curve(20, 1),
            "9 27 27 15 15 15");
        Check.row("no REQUESTS", new TwoTierStore().curve(1, 0) + " " + new TwoTierStore().curve(20, 1), "0 0");
        TwoTierStore y = Check.made("item a 1 3 2;");
        y.request(0);
        y.carry(0, 1);
        y.request(0);
        Check.row("from an empty shelf", y.curve(6, 0) + " " + y.curve(6, 1), 2 + 5 + " 3");
        TwoTierStore z = Check.made("rule heat;item a 1 15 8;");
        z.request(0);
        Check.row("HEAT 0", z.curve(6, 0) + " " + z.curve(6, 0), "8 8");

        Sentences.test("Promise 26", "NONE: not as told.");
        for (int n : new int[] {0, 21, -1, MOST, LEAST}) {
            Check.row("curve of " + n, x.curve(n, 0) + " " + x.curve(n, 1), "-1 -1");
        }
        for (int what : new int[] {2, -1, MOST, LEAST}) {
            Check.due("curve(4, " + what + ")", x.curve(4, what), NONE);
        }

        Sentences.test("Promise 26", "Nothing is changed.");
        TwoTierStore w = asked("room 2;item a 2 5 2;item b 2 4 2;", "a;a;a;b;");
        w.book(0, 0, 9);
        String ahead = seen(w);
        Check.row("curve", w.curve(20, 0) + " " + w.curve(1, 1), 2 + 2 + 7 + 2 + " 8");
        Check.row("all of it", seen(w), ahead);
    }

    // ---- promises 30 and 35 ----

    private static void ratio() {
        Sentences.test("Promise 30", "PAID in the LOG by BEST, as a float divided by a float, as bits;");
        TwoTierStore x = asked(STORE, "a;a;b;");
        Check.due("17 by 8", x.ratio(), Float.floatToIntBits(2.125f));
        x.carry(1, 0);
        x.carry(0, 1);
        Check.due("a hand is not in the LOG", x.ratio(), Float.floatToIntBits(2.125f));
        Check.due("1", asked("rule once;item a 1 7 1;", "a;").ratio(), Float.floatToIntBits(1f));
        Check.due("120 by 60", asked("item a 1 60 20;", "a;a;a;a;").ratio(), Float.floatToIntBits(2f));
        Check.due("21 by 1, the most", asked("item a 1 1 20;", "a;").ratio(), Float.floatToIntBits(21f));
        TwoTierStore y = Check.made("item a 1 60 20;");
        y.carry(0, 1);
        y.request(0);
        Check.due("nothing PAID", y.ratio(), 0);
        TwoTierStore z = asked("item a 1 60 20;", "a;a;a;");
        z.undo();
        Check.names(z, "a;");
        Check.due("20 by 20, more was undone", z.ratio(), Float.floatToIntBits(1f));
        TwoTierStore w = asked("room 1;rule once;item a 1 60 20;item b 1 1 1;", "again 5[again 4[a;b;];];");
        Check.due("40 REQUESTS", w.ratio(), Float.floatToIntBits(1f));
        y.carry(0, 0);
        y.request(0);
        y.carry(0, 1);
        y.request(0);
        Check.due("20 by 60, below 1", y.ratio(), Float.floatToIntBits(20f / 60f));

        Sentences.test("Promise 30", "NONE: no REQUESTS, BEST pays nothing.");
        Check.due("no REQUESTS", Check.made(STORE).ratio(), NONE);
        Check.due("a new object", new TwoTierStore().ratio(), NONE);
        // BEST pays 1 at least for any REQUEST, as RENT and PRICE are 1 at least
        Check.due("BEST pays the least", asked("item a 1 1 1;", "a;").ratio(), Float.floatToIntBits(2f));
    }

    private static void would() {
        Sentences.test("Promise 35", "What the LOG would have cost by another RULE (0 to 2) from an empty FAST shelf, COUNTERS, HEAT 0;");
        TwoTierStore x = asked(STORE, "a;a;b;");
        // heat: a 1 by 2 is 2, 1.875 by 2 is 3.75; b 1 by 5 is 5
        Check.row("0 to 2", x.would(0) + " " + x.would(1) + " " + x.would(2), 3 + 5 + " 17 17");
        x.carry(1, 0);
        x.carry(0, 1);
        Check.row("from an empty shelf", x.would(0) + " " + x.would(1) + " " + x.would(2), "8 17 17");
        x.request(0);
        Check.row("COUNTERS, HEAT 0", x.would(1) + " " + x.would(1) + " " + x.would(2) + " " + x.would(2), "19 19 22 22");
        Check.row("no REQUESTS", Check.made(STORE).would(0) + " " + new TwoTierStore().would(2), "0 0");

        Sentences.test("Promise 35", "NONE: not as told.");
        for (int r : new int[] {3, -1, MOST, LEAST}) {
            Check.due("would(" + r + ")", x.would(r), NONE);
        }

        Sentences.test("Promise 35", "Nothing is changed.");
        TwoTierStore w = asked("room 2;item a 2 5 2;item b 2 4 2;", "a;a;a;b;");
        w.book(0, 0, 9);
        String ahead = seen(w);
        Check.row("would", w.would(0) + " " + w.would(2), 5 + 4 + " " + (2 + 2 + 7 + 2));
        Check.row("all of it", seen(w), ahead);
    }
}
