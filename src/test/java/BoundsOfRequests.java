/** The boundaries of "Terms" 2 and of promises 6 to 8, 10 to 13 and 27 to 29: the shelves, REQUESTS, carrying, the picture. */
final class BoundsOfRequests {
    private static final int NONE = TwoTierStore.NONE;
    private static final int MOST = Integer.MAX_VALUE;
    private static final int LEAST = Integer.MIN_VALUE;

    private BoundsOfRequests() {
    }

    static void all() {
        shelves();
        makingWay();
        aRequest();
        upByRent();
        upByHeat();
        heat();
        log();
        now();
        item();
        request();
        logged();
        room();
        rule();
        carry();
        spent();
        picture();
    }

    static String items(TwoTierStore x, int what) {
        StringBuilder row = new StringBuilder();
        for (int k = 0; k < x.now(2); k++) {
            row.append(k == 0 ? "" : " ").append(x.item(k, what));
        }
        return row.toString();
    }

    static String nows(TwoTierStore x) {
        StringBuilder row = new StringBuilder();
        for (int what = 0; what < 10; what++) {
            row.append(what == 0 ? "" : " ").append(x.now(what));
        }
        return row.toString();
    }

    private static int bits(float f) {
        return Float.floatToIntBits(f);
    }

    /** Requests for ITEM 0 of a STORE, one behind the other: what each PAID. */
    private static void pays(String store, String due) {
        TwoTierStore x = Check.made(store);
        StringBuilder row = new StringBuilder();
        for (int i = 0; i < due.split(" ").length; i++) {
            row.append(i == 0 ? "" : " ").append(x.request(0));
        }
        Check.row("REQUESTS for ITEM 0 of \"" + store + "\"", row.toString(), due);
    }

    // ---- Terms 2 ----

    private static void shelves() {
        Sentences.test("Terms 2", "An ITEM lies on the FAST shelf or on the SLOW one (at first).");
        TwoTierStore x = Check.made("item a 1 5 1;item b 6 5 1;");
        Check.row("at first", x.now(3) + " " + x.carry(0, 0) + " " + x.carry(1, 0), "0 1 1");
        x.carry(0, 1);
        Check.row("behind UP", x.now(3) + " " + x.carry(0, 1) + " " + x.carry(1, 0), "1 1 1");

        Sentences.test("Terms 2", "ITEMS on FAST have SIZES together of ROOM at most.");
        TwoTierStore y = Check.made("room 6;rule once;item a 3 5 1;item b 3 5 1;item c 1 5 1;");
        Check.names(y, "a;b;");
        Check.row("just ROOM", y.now(3) + " " + y.now(4), "3 0");
        Check.due("none more by hand", y.carry(2, 1), 2);
        y.request(2);
        Check.row("another makes one go", y.now(3) + " " + y.now(4), "6 2");

        Sentences.test("Terms 2", "Each on FAST has a CREDIT: a fraction of its PRICE, told in sixtieths of a unit of SIZE: DENSITY, 60 PRICE / SIZE when it is full.");
        TwoTierStore z = Check.made("room 20;item a 1 60 1;item b 6 1 1;item c 6 60 1;item d 1 1 1;item e 5 7 1;");
        Check.row("on SLOW", items(z, 3), "0 0 0 0 0");
        z.shift(31, 40);
        Check.row("full", items(z, 3), "3600 10 600 60 84");
        TwoTierStore w = Check.made("room 20;item a 2 7 1;item b 3 7 1;item c 4 7 1;");
        w.shift(7, 40);
        Check.row("full", items(w, 3), "210 140 105");
    }

    private static void makingWay() {
        Sentences.test("Terms 2", "To make way for SIZE s on FAST: as long as ROOM less what lies there is below s:");
        String two = "rule once;item a 3 5 1;item b 3 4 1;";
        TwoTierStore x = Check.made("room 6;" + two);
        Check.names(x, "a;b;");
        Check.row("just so much is free: none goes, none sinks", x.now(3) + " " + x.item(0, 3), "3 100");
        TwoTierStore y = Check.made("room 5;" + two);
        Check.names(y, "a;b;");
        Check.row("one less is free: it goes", y.now(3) + " " + y.item(0, 3), "2 0");
        TwoTierStore z = Check.made("room 6;rule once;item a 2 5 1;item b 2 5 1;item c 2 5 1;item d 4 5 1;item e 5 5 1;item f 6 5 1;");
        z.shift(7, 40);
        Check.row("so many as are wanted", z.victims(3) + " " + z.victims(4) + " " + z.victims(5), "3 7 7");
        z.carry(1, 0);
        Check.row("and no more", z.victims(1) + " " + z.victims(3) + " " + z.victims(4), "0 1 5");

        Sentences.test("Terms 2", "of those whose DENSITY is 0 the first (the least number) goes DOWN (to SLOW);");
        TwoTierStore w = Check.made("room 4;rule once;item a 2 2 1;item b 2 2 1;item c 2 9 1;");
        w.carry(1, 1);
        w.carry(0, 1);
        w.request(2);
        Check.row("a, though b came first", w.now(3) + " " + items(w, 3), "6 0 0 270");
        w.request(0);
        Check.row("b is at 0 still: it goes, none sinks", w.now(3) + " " + items(w, 3), "5 60 0 270");
        w.request(1);
        Check.row("none is at 0: all sink by 60, a goes", w.now(3) + " " + items(w, 3), "6 0 60 210");

        Sentences.test("Terms 2", "if there is none, the least DENSITY is taken from all.");
        TwoTierStore v = Check.made("room 4;rule once;item a 1 1 1;item b 1 2 1;item c 2 6 1;item d 1 9 1;item e 3 1 1;");
        Check.names(v, "a;b;c;");
        Check.row("full", items(v, 3), "60 120 180 0 0");
        v.request(3);
        Check.row("60 is taken, a goes", items(v, 3), "0 60 120 540 0");
        v.request(4);
        Check.row("60, then 60 more is taken, b and c go", v.now(3) + " " + items(v, 3), "24 0 0 0 420 20");
        TwoTierStore t = Check.made("room 7;rule once;item a 1 7 1;item b 1 6 1;item c 1 5 1;item d 1 4 1;item e 1 3 1;item f 1 2 1;item g 1 1 1;item h 6 8 1;");
        t.shift(127, 40);
        Check.due("six sink and go, one after the other", t.victims(7), 126);
        t.request(7);
        Check.row("what is left", t.now(3) + " " + items(t, 3), "129 60 0 0 0 0 0 0 80");
        TwoTierStore u = Check.made("room 6;rule once;item a 6 60 1;item b 6 1 1;");
        Check.names(u, "a;b;");
        Check.row("all that one has", u.now(3) + " " + items(u, 3), "2 0 10");
    }

    private static void aRequest() {
        Sentences.test("Terms 2", "A REQUEST for an ITEM. On FAST: nothing is paid, its DENSITY is full again.");
        TwoTierStore x = Check.made("room 3;rule once;item a 1 1 1;item b 1 2 1;item c 1 3 1;item d 1 4 1;");
        Check.names(x, "a;b;c;d;");
        Check.row("sunk", items(x, 3), "0 60 120 240");
        Check.due("nothing is paid", x.request(1), 0);
        Check.row("b is full again, others are not", items(x, 3), "0 120 120 240");
        for (String rule : new String[] {"once", "rent", "heat"}) {
            TwoTierStore y = Check.made("rule " + rule + ";item a 1 5 5;");
            y.carry(0, 1);
            Check.row("by " + rule, y.request(0) + " " + y.now(5) + " " + y.item(0, 4), "0 5 0");
        }

        Sentences.test("Terms 2", "On SLOW, and its SIZE above ROOM: RENT is paid.");
        pays("room 5;rule once;item a 5 3 2;", "3 0");
        pays("room 4;rule once;item a 5 3 2;", "2 2 2 2");
        pays("room 5;rule rent;item a 5 3 2;", "2 5 0");
        pays("room 4;rule rent;item a 5 3 2;", "2 2 2 2");
        pays("room 5;rule heat;item a 5 3 2;", "2 5 0");
        pays("room 4;rule heat;item a 5 3 2;", "2 2 2 2");
        TwoTierStore z = Check.made("room 1;item a 2 1 20;item b 1 1 1;");
        z.carry(1, 1);
        z.request(0);
        Check.row("none makes way, nothing is counted", z.now(3) + " " + z.item(1, 3) + " " + z.item(0, 4), "2 60 0");

        Sentences.test("Terms 2", "On SLOW else, by RULE: once: it goes UP.");
        pays("room 6;rule once;item a 6 60 1;", "60 0");
        pays("room 1;rule once;item a 1 1 20;", "1 0");
    }

    private static void upByRent() {
        Sentences.test("Terms 2", "rent: RENT is paid, its COUNTER goes up by RENT (0 at first); if that is PRICE or more, it goes UP.");
        pays("item a 1 5 2;", "2 2 7 0");
        pays("item a 1 6 2;", "2 2 8 0");
        pays("item a 1 7 2;", "2 2 2 9 0");
        pays("item a 1 1 1;", "2 0");
        pays("item a 1 20 20;", "40 0");
        pays("item a 1 21 20;", "20 41 0");
        pays("item a 1 1 20;", "21 0");
        pays("item a 1 39 1;", "1 ".repeat(38) + "40 0");
        TwoTierStore x = Check.made("item a 1 5 2;item b 1 5 3;");
        Check.due("0 at first", x.item(0, 4), 0);
        x.request(0);
        x.request(0);
        x.request(1);
        Check.row("each its own", items(x, 4), "4 3");

        Sentences.test("Terms 2", "It goes UP: way is made for it, PRICE is paid, it lies on FAST, its DENSITY is full, its COUNTER 0.");
        TwoTierStore y = Check.made("room 2;item a 2 5 3;item b 2 4 4;");
        y.request(0);
        y.request(0);
        Check.row("UP", y.now(3) + " " + y.item(0, 3) + " " + y.item(0, 4) + " " + y.now(5), "1 150 0 11");
        y.request(1);
        Check.row("way is made", y.now(3) + " " + items(y, 3) + " " + y.now(5), "2 0 120 19");
        y.request(0);
        Check.row("its COUNTER began anew", y.now(3) + " " + y.item(0, 4), "2 3");
    }

    private static void upByHeat() {
        Sentences.test("Terms 2", "heat: RENT is paid; if its HEAT by RENT (a float) is PRICE or more, it goes UP.");
        pays("rule heat;item a 1 4 5;", "9 0");
        pays("rule heat;item a 1 5 5;", "10 0");
        pays("rule heat;item a 1 6 5;", "5 11 0");
        // HEAT is 1, 1.875, 2.640625: by 8 it is 8, 15, 21.125
        pays("rule heat;item a 1 15 8;", "8 23 0");
        pays("rule heat;item a 1 16 8;", "8 8 24 0");
        pays("rule heat;item a 1 21 8;", "8 8 29 0");
        pays("rule heat;item a 1 22 8;", "8 8 8 30 0");
        // HEAT stays below 8
        pays("rule heat;item a 1 8 1;", "1 ".repeat(39) + "1");
        pays("rule heat;item a 1 1 20;", "21 0");
        TwoTierStore x = Check.made("rule heat;item a 1 15 8;item b 1 60 1;");
        x.request(0);
        x.request(1);
        // 0.875 by 0.875 and 1 is 1.765625, by 8 it is 14.125
        Check.due("another between", x.request(0), 8);
        Check.due("no COUNTER", x.item(0, 4), 0);
    }

    private static void heat() {
        Sentences.test("Terms 2", "HEAT of all ITEMS (a float, 0 at first) is taken by 0.875 at each REQUEST, ahead of all else (whatever RULE there is),");
        for (String rule : new String[] {"once", "rent", "heat"}) {
            TwoTierStore x = Check.made("room 1;rule " + rule + ";item a 1 9 1;item b 2 9 1;item c 1 9 1;");
            Check.row("0 at first", items(x, 5), "0 0 0");
            x.request(0);
            Check.row("by " + rule, items(x, 5), bits(1f) + " 0 0");
            x.request(1);
            Check.row("one above ROOM", items(x, 5), bits(0.875f) + " " + bits(1f) + " 0");
            x.carry(0, 1);
            x.carry(0, 0);
            x.request(-1);
            Check.row("what is no REQUEST", items(x, 5), bits(0.875f) + " " + bits(1f) + " 0");
            x.carry(0, 1);
            x.request(0);
            Check.row("a HIT", items(x, 5), bits(1.765625f) + " " + bits(0.875f) + " 0");
        }

        Sentences.test("Terms 2", "that of the one that is asked for then goes up by 1 (each a float, as Java's floats are).");
        TwoTierStore y = Check.made("item a 1 60 1;item b 1 60 1;");
        float a = 0f;
        float b = 0f;
        for (int i = 0; i < 40; i++) {
            int k = i < 20 ? 0 : 1;
            y.request(k);
            a = a * 0.875f + (k == 0 ? 1f : 0f);
            b = b * 0.875f + (k == 1 ? 1f : 0f);
            Check.row("HEAT at " + i, items(y, 5), bits(a) + " " + bits(b));
        }
    }

    private static void log() {
        Sentences.test("Terms 2", "LOG: all REQUESTS since store(), room(), rule() (that were not NONE), 40 at most; what was PAID in each.");
        TwoTierStore x = Check.made("item a 6 40 1;");
        for (int i = 0; i < 39; i++) {
            x.request(0);
        }
        Check.row("39", x.now(6) + " " + x.log(38, 1) + " " + x.log(39, 1), "39 1 -1");
        Check.due("the 40th", x.request(0), 41);
        Check.row("40", x.now(6) + " " + x.log(39, 1) + " " + x.log(40, 1), "40 41 -1");
        Check.due("one more", x.request(0), -3);
        x.room(6);
        x.rule(1);
        x.room(0);
        x.rule(3);
        Check.due("those that were NONE", x.now(6), 40);
        x.carry(0, 0);
        Check.due("a hand", x.now(6), 40);
        x.room(7);
        Check.due("room()", x.now(6), 0);
        x.request(0);
        x.rule(0);
        Check.due("rule()", x.now(6), 0);
        x.request(0);
        Check.store(x, "#");
        Check.due("a FAULT", x.now(6), 1);
        Check.store(x, "item a 6 40 1;");
        Check.due("store()", x.now(6), 0);
    }

    // ---- promises 6 to 8, 10 ----

    private static void now() {
        Sentences.test("Promise 6", "0 ROOM, 1 RULE (0 once, 1 rent, 2 heat), 2 ITEMS, 3 those on FAST as bits, 4 what is free on FAST,");
        TwoTierStore x = Check.made("room 20;item a 1 1 1;item b 1 1 1;item c 1 1 1;item d 1 1 1;item e 1 1 1;item f 1 1 1;item g 1 1 1;item h 6 1 1;");
        Check.row("empty", x.now(0) + " " + x.now(2) + " " + x.now(3) + " " + x.now(4), "20 8 0 20");
        x.carry(7, 1);
        Check.row("the last bit", x.now(3) + " " + x.now(4), "128 14");
        x.shift(255, 40);
        Check.row("all bits", x.now(3) + " " + x.now(4), "255 7");
        x.room(13);
        x.shift(255, 40);
        Check.row("nothing is free", x.now(0) + " " + x.now(3) + " " + x.now(4), "13 255 0");
        Check.due("rent", x.now(1), 1);
        x.rule(2);
        Check.due("heat", x.now(1), 2);
        x.rule(0);
        Check.due("once", x.now(1), 0);

        Sentences.test("Promise 6", "5 PAID in all since store(), 6 REQUESTS in the LOG, 7 bytes of the tape,");
        TwoTierStore y = Check.made("rule once;item a 3 7 2;item b 3 5 2;");
        y.request(0);
        y.carry(1, 1);
        y.rule(1);
        y.shift(1, 6);
        y.request(1);
        y.feed(0, 0, 0, 0, 0);
        y.end(13);
        Check.row("7 and 5, by hand, and 7, by RIDES, and 2", y.now(5) + " " + y.now(6) + " " + y.now(7), "21 1 13");

        Sentences.test("Promise 6", "8 ITEMS that went DOWN, 9 that went UP since store() (by hand, by RIDES, too).");
        TwoTierStore z = Check.made("room 6;rule once;item a 3 7 2;item b 3 5 2;item c 6 5 2;");
        Check.names(z, "a;b;a;");
        Check.row("two UP", z.now(8) + " " + z.now(9), "0 2");
        z.request(2);
        Check.row("two DOWN, one UP", z.now(8) + " " + z.now(9), "2 3");
        z.carry(2, 0);
        z.carry(2, 0);
        z.carry(0, 1);
        Check.row("by hand", z.now(8) + " " + z.now(9), "3 4");
        z.shift(2, 3);
        Check.row("by RIDES", z.now(8) + " " + z.now(9), "4 5");
        z.room(7);
        z.rule(1);
        Check.row("room(), rule() are not counted", z.now(8) + " " + z.now(9), "4 5");
        z.undo();
        z.undo();
        z.undo();
        Check.row("undone", z.now(8) + " " + z.now(9), "3 4");

        Sentences.test("Promise 6", "NONE for another what.");
        Check.due("now(9)", z.now(9), 4);
        for (int what : new int[] {10, -1, MOST, LEAST}) {
            Check.due("now(" + what + ")", z.now(what), NONE);
        }
    }

    private static void item() {
        Sentences.test("Promise 7", "Of an ITEM: 0 SIZE, 1 PRICE, 2 RENT, 3 DENSITY (0 on SLOW), 4 COUNTER, 5 HEAT as a float's bits.");
        TwoTierStore x = Check.made("item a 6 60 20;item b 1 1 1;item c 2 9 4;");
        x.request(2);
        Check.row("on SLOW", x.item(2, 0) + " " + x.item(2, 1) + " " + x.item(2, 2)
            + " " + x.item(2, 3) + " " + x.item(2, 4) + " " + x.item(2, 5), "2 9 4 0 4 " + bits(1f));
        x.carry(2, 1);
        Check.row("on FAST", x.item(2, 3) + " " + x.item(2, 4) + " " + x.item(2, 5), "270 0 " + bits(1f));
        x.carry(2, 0);
        Check.due("0 on SLOW", x.item(2, 3), 0);
        Check.row("the most", x.item(0, 0) + " " + x.item(0, 1) + " " + x.item(0, 2), "6 60 20");

        Sentences.test("Promise 7", "NONE: no such ones.");
        for (int k : new int[] {3, -1, MOST, LEAST}) {
            Check.due("item(" + k + ", 0)", x.item(k, 0), NONE);
        }
        for (int what : new int[] {6, -1, MOST, LEAST}) {
            Check.due("item(0, " + what + ")", x.item(0, what), NONE);
        }
        Check.store(x, "");
        Check.due("ITEMS of the STORE ahead", x.item(0, 0), NONE);
    }

    private static void request() {
        Sentences.test("Promise 8", "A REQUEST: what was PAID;");
        TwoTierStore x = Check.made("item a 1 60 20;item b 6 1 1;");
        Check.row("RENT, RENT, RENT and PRICE, nothing", x.request(0) + " " + x.request(0) + " " + x.request(0) + " " + x.request(0), "20 20 80 0");
        Check.row("the last ITEM", x.request(1) + " " + x.now(3), "2 2");

        Sentences.test("Promise 8", "-2: no such ITEM;");
        for (int k : new int[] {2, -1, MOST, LEAST}) {
            Check.due("request(" + k + ")", x.request(k), -2);
        }
        Check.row("nothing is done", x.now(5) + " " + x.now(6) + " " + x.item(1, 5), "122 5 " + bits(1f));
        Check.row("nor kept for undo()", x.undo() + " " + x.now(6), "4 4");

        Sentences.test("Promise 8", "-3: the LOG is full.");
        TwoTierStore y = Check.made("item a 1 60 1;");
        y.drawn(39, 1);
        Check.due("the 40th", y.request(0), 1);
        int heat = y.item(0, 5);
        Check.due("the 41st", y.request(0), -3);
        Check.due("no such ITEM goes ahead", y.request(1), -2);
        Check.row("nothing is done", y.now(5) + " " + y.now(6) + " " + y.item(0, 4) + " " + (y.item(0, 5) == heat), "40 40 40 true");
        Check.row("nor kept for undo()", y.undo() + " " + y.now(6) + " " + y.request(0), "1 39 1");
    }

    private static void logged() {
        Sentences.test("Promise 10", "Of REQUEST i in the LOG: its ITEM (0), what was PAID (1), those on FAST behind it as bits (2).");
        TwoTierStore x = Check.made("room 2;rule once;item a 1 3 1;item b 2 5 1;item c 3 7 2;");
        Check.names(x, "a;b;c;b;");
        x.carry(1, 0);
        int[][] due = {{0, 3, 1}, {1, 5, 2}, {2, 2, 2}, {1, 0, 2}};
        for (int i = 0; i < 4; i++) {
            for (int what = 0; what < 3; what++) {
                Check.due("log(" + i + ", " + what + ")", x.log(i, what), due[i][what]);
            }
        }

        Sentences.test("Promise 10", "NONE: no such ones.");
        for (int i : new int[] {4, -1, MOST, LEAST}) {
            Check.due("log(" + i + ", 0)", x.log(i, 0), NONE);
        }
        for (int what : new int[] {3, -1, MOST, LEAST}) {
            Check.due("log(0, " + what + ")", x.log(0, what), NONE);
        }
        x.undo();
        x.undo();
        Check.due("undone", x.log(0, 0), NONE);
    }

    // ---- promises 11 to 13 ----

    private static void room() {
        Sentences.test("Promise 11", "ROOM is n (1 to 20):");
        TwoTierStore x = Check.made("item a 1 1 1;item b 6 6 6;");
        Check.row("room(0)", x.room(0) + " " + x.now(0), "-1 6");
        Check.row("room(1)", x.room(1) + " " + x.now(0) + " " + x.now(4), "0 1 1");
        Check.row("room(20)", x.room(20) + " " + x.now(0) + " " + x.now(4), "0 20 20");
        Check.row("room(21)", x.room(21) + " " + x.now(0), "-1 20");

        Sentences.test("Promise 11", "all that is on FAST goes DOWN, COUNTERS, HEAT are 0, the LOG is empty (no GATES, no ENTRIES, not counted): how many;");
        TwoTierStore y = Check.made("room 6;item a 1 1 1;item b 2 60 2;item c 3 1 1;");
        y.book(0, 0, 30);
        Check.names(y, "a;c;b;");
        y.carry(0, 0);
        y.carry(0, 1);
        Check.row("ahead", nows(y) + " " + Check.gates(y) + " " + Check.booked(y, 0), "6 1 3 5 2 7 3 0 1 3 1234 7 0 0 8 0 30");
        Check.due("how many", y.room(7), 2);
        Check.row("behind", nows(y) + " " + Check.gates(y) + " " + Check.booked(y, 0), "7 1 3 0 7 7 0 0 1 3 1234 7 0 0 8 0 30");
        Check.row("DENSITIES, COUNTERS, HEAT", items(y, 3) + " " + items(y, 4) + " " + items(y, 5), "0 0 0 0 0 0 0 0 0");
        Check.due("none lies there", y.room(6), 0);

        Sentences.test("Promise 11", "NONE: not as told, it is so.");
        Check.names(y, "a;b;");
        String ahead = nows(y) + items(y, 4) + items(y, 5);
        for (int n : new int[] {0, 21, -1, 6, MOST, LEAST}) {
            Check.due("room(" + n + ")", y.room(n), NONE);
        }
        Check.row("nothing is done", nows(y) + items(y, 4) + items(y, 5), ahead);
        y.undo();
        Check.row("nor kept for undo()", y.now(0) + " " + y.now(6) + " " + y.undo() + " " + y.now(0), "6 0 4 7");
    }

    private static void rule() {
        Sentences.test("Promise 12", "RULE is r (0 to 2): likewise.");
        TwoTierStore x = Check.made("item a 1 1 1;item b 2 60 2;");
        x.book(0, 0, 30);
        Check.names(x, "a;b;");
        String ahead = nows(x) + items(x, 4) + items(x, 5);
        for (int r : new int[] {-1, 3, 1, MOST, LEAST}) {
            Check.due("rule(" + r + ")", x.rule(r), NONE);
        }
        Check.row("nothing is done", nows(x) + items(x, 4) + items(x, 5), ahead);
        Check.row("rule(0)", x.rule(0) + " " + nows(x), "1 6 0 2 0 6 4 0 0 0 1");
        Check.row("DENSITIES, COUNTERS, HEAT", items(x, 3) + " " + items(x, 4) + " " + items(x, 5), "0 0 0 0 0 0");
        Check.row("no GATES, no ENTRIES", Check.gates(x) + " " + Check.booked(x, 0), "1234 3 0 0 4 0 30");
        Check.row("rule(2)", x.rule(2) + " " + x.now(1), "0 2");
        Check.row("rule(2): it is so", x.rule(2) + " " + x.now(1), "-1 2");
        Check.row("rule(1)", x.rule(1) + " " + x.now(1), "0 1");
        Check.row("undone", x.undo() + " " + x.now(1) + " " + x.undo() + " " + x.now(1) + " " + x.undo() + " " + x.now(1) + " " + x.now(3), "3 2 2 0 1 1 1");
    }

    private static void carry() {
        Sentences.test("Promise 13", "By hand: an ITEM goes UP (up 1; way is not made; PRICE is paid, but is not in the LOG; full DENSITY, COUNTER 0), DOWN (0): 0;");
        TwoTierStore x = Check.made("room 4;item a 2 6 3;item b 2 2 1;item c 3 4 2;");
        x.request(0);
        Check.due("UP", x.carry(0, 1), 0);
        Check.row("now", nows(x) + " " + x.item(0, 3) + " " + x.item(0, 4), "4 1 3 1 2 9 1 0 0 1 180 0");
        Check.row("PAID in the LOG", x.spent(0, 2) + " " + x.log(0, 1) + " " + x.log(0, 2), "3 3 0");
        Check.due("way is not made", x.carry(2, 1), 2);
        Check.due("it stays", x.now(3), 1);
        Check.due("DOWN", x.carry(0, 0), 0);
        Check.row("nothing is paid", nows(x) + " " + x.item(0, 3), "4 1 3 0 4 9 1 0 1 1 0");

        Sentences.test("Promise 13", "1: it is there;");
        Check.due("DOWN there", x.carry(0, 0), 1);
        x.carry(0, 1);
        Check.due("UP there", x.carry(0, 1), 1);
        x.carry(1, 1);
        Check.due("UP there, and no room", x.carry(0, 1), 1);
        Check.row("nothing is done", nows(x), "4 1 3 3 0 17 1 0 1 3");

        Sentences.test("Promise 13", "2: there is too little room;");
        TwoTierStore y = Check.made("room 5;item a 2 1 1;item b 3 1 1;item c 4 1 1;item d 6 1 1;");
        y.carry(0, 1);
        Check.due("one too much", y.carry(2, 1), 2);
        Check.due("above ROOM", y.carry(3, 1), 2);
        Check.due("just enough", y.carry(1, 1), 0);
        Check.row("nothing is done by 2", nows(y), "5 1 4 3 0 2 0 0 0 2");

        Sentences.test("Promise 13", "-2: no such ones.");
        for (int k : new int[] {4, -1, MOST, LEAST}) {
            Check.due("carry(" + k + ", 0)", y.carry(k, 0), -2);
            Check.due("carry(" + k + ", 1)", y.carry(k, 1), -2);
        }
        for (int up : new int[] {2, -1, MOST, LEAST}) {
            Check.due("carry(0, " + up + ")", y.carry(0, up), -2);
        }
        Check.row("nothing is kept for undo()", y.undo() + " " + y.undo() + " " + y.undo(), "1 0 -1");

        Sentences.test("Promise 13", "(With 1, 2 both GATES are opened, and shut.)");
        TwoTierStore z = Check.made("room 2;item a 1 1 1;item b 3 1 1;");
        z.carry(0, 2);
        z.carry(2, 0);
        z.carry(2, 1);
        Check.row("with -2 none is", Check.gates(z), "");
        z.carry(0, 0);
        Check.row("with 1", Check.gates(z), "1234");
        TwoTierStore w = Check.made("room 2;item a 1 1 1;item b 3 1 1;");
        w.carry(1, 1);
        Check.row("with 2", Check.gates(w), "1234");
        Check.due("they are not kept for undo()", z.undo() + w.undo(), NONE + NONE);
    }

    // ---- promises 27 to 29 ----

    private static void spent() {
        Sentences.test("Promise 27", "Of an ITEM in the LOG: 0 its REQUESTS, 1 HITS among these, 2 what was PAID in them.");
        TwoTierStore x = Check.made("room 1;item a 1 2 1;item b 2 1 3;");
        Check.row("none yet", x.spent(0, 0) + " " + x.spent(0, 1) + " " + x.spent(0, 2), "0 0 0");
        x.carry(0, 1);
        Check.names(x, "a;b;a;");
        Check.row("HITS alone", x.spent(0, 0) + " " + x.spent(0, 1) + " " + x.spent(0, 2), "2 2 0");
        Check.row("RENT alone", x.spent(1, 0) + " " + x.spent(1, 1) + " " + x.spent(1, 2), "1 0 3");
        x.carry(0, 0);
        Check.names(x, "a;a;a;");
        Check.row("RENT, RENT and PRICE, a HIT", x.spent(0, 0) + " " + x.spent(0, 1) + " " + x.spent(0, 2), "5 3 4");
        Check.names(x, "again 4[again 9[b;];];");
        Check.row("up to 40", x.spent(1, 0) + " " + x.spent(1, 2), "35 105");
        x.room(2);
        Check.row("a LOG that is empty", x.spent(0, 0) + " " + x.spent(1, 2), "0 0");

        Sentences.test("Promise 27", "NONE: no such ones.");
        for (int k : new int[] {2, -1, MOST, LEAST}) {
            Check.due("spent(" + k + ", 0)", x.spent(k, 0), NONE);
        }
        for (int what : new int[] {3, -1, MOST, LEAST}) {
            Check.due("spent(0, " + what + ")", x.spent(0, what), NONE);
        }
    }

    private static void picture() {
        Sentences.test("Promise 28", "A picture of FAST: ITEM by ITEM that lies there as often as its SIZE the first letter of its NAME, then . for what is free: how many signs.");
        TwoTierStore x = Check.made("room 1;item zebra 1 1 1;item a 6 1 1;item mm 5 1 1;item b 4 1 1;item cd 5 1 1;");
        Check.row("ROOM 1", x.picture() + Check.picture(x), "1.");
        x.carry(0, 1);
        Check.row("ROOM 1, full", x.picture() + Check.picture(x), "1z");
        x.room(20);
        Check.row("ROOM 20", x.picture() + Check.picture(x), "20....................");
        x.carry(4, 1);
        x.carry(1, 1);
        Check.row("by numbers", Check.picture(x), "aaaaaaccccc.........");
        x.shift(30, 40);
        Check.row("ROOM 20, full", x.picture() + Check.picture(x), "20aaaaaammmmmbbbbccccc");
        Check.row("a new object", Check.picture(new TwoTierStore()), "......");

        Sentences.test("Promise 29", "Sign i of the latest picture();");
        Check.row("the first and the last", x.byteAt(0) + " " + x.byteAt(19), (int) 'a' + " " + (int) 'c');
        x.room(3);
        x.carry(0, 1);
        Check.row("until another is drawn", x.byteAt(0) + " " + x.byteAt(19), (int) 'a' + " " + (int) 'c');
        x.picture();
        Check.row("another", x.byteAt(0) + " " + x.byteAt(1) + " " + x.byteAt(2) + " " + x.byteAt(3), (int) 'z' + " 46 46 -1");

        Sentences.test("Promise 29", "NONE: none such, or ahead of any.");
        for (int i : new int[] {3, 19, -1, MOST, LEAST}) {
            Check.due("byteAt(" + i + ")", x.byteAt(i), NONE);
        }
        Check.due("ahead of any", new TwoTierStore().byteAt(0), NONE);
    }
}
