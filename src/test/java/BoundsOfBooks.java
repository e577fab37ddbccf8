/** The boundaries of ENTRIES and BOOKS ("Terms" 2), of GATES ("Terms" 3) and of promises 14 to 17. */
final class BoundsOfBooks {
    private static final int NONE = TwoTierStore.NONE;
    private static final int MOST = Integer.MAX_VALUE;
    private static final int LEAST = Integer.MIN_VALUE;
    /** By rent a goes UP at its second REQUEST, b at its first; both fill ROOM alone. */
    private static final String STORE = "room 2;item a 2 6 3;item b 2 5 7;";

    private BoundsOfBooks() {
    }

    static void all() {
        entries();
        kinds();
        lines();
        book();
        booked();
        line();
        gates();
        gateOf();
    }

    private static void entries() {
        Sentences.test("Terms 2", "Each deed makes ENTRIES, in this order: kind 0 a HIT (on FAST; amount 0), 1 a RENT paid (amount it), 2 an ITEM that goes DOWN (amount its SIZE), 3 one that goes UP (amount PRICE).");
        TwoTierStore x = Check.made(STORE);
        x.book(0, 0, 30);
        Check.names(x, "a;a;a;b;");
        Check.row("rent", Check.lines(x, 0), "1,0,3 1,0,3 3,0,6 0,0,0 1,1,7 2,0,2 3,1,5");
        TwoTierStore y = Check.made("room 4;rule once;item a 2 6 3;item b 1 5 7;item c 4 9 1;item d 5 9 2;");
        y.book(0, 0, 30);
        Check.names(y, "a;b;c;d;");
        Check.row("once: no RENT but of what is above ROOM", Check.lines(y, 0), "3,0,6 3,1,5 2,0,2 2,1,1 3,2,9 1,3,2");
        TwoTierStore z = Check.made("rule heat;item a 2 6 6;item b 6 5 4;");
        z.book(0, 0, 30);
        Check.names(z, "a;b;b;");
        Check.row("heat", Check.lines(z, 0), "1,0,6 3,0,6 1,1,4 1,1,4 2,0,2 3,1,5");
        z.carry(1, 0);
        z.carry(1, 0);
        z.carry(0, 1);
        z.shift(2, 12);
        Check.row("by hand, by RIDES", Check.lines(z, 0), "1,0,6 3,0,6 1,1,4 1,1,4 2,0,2 3,1,5 2,1,6 3,0,6 2,0,2 3,1,5");

        TwoTierStore v = Check.made("room 7;item a 1 1 1;item b 1 2 1;item c 1 3 1;item d 1 4 1;item e 1 5 1;item f 1 6 1;item g 1 7 1;item h 6 8 8;");
        v.shift(127, 40);
        v.book(0, 0, 30);
        Check.due("the most that one REQUEST makes", v.request(7), 16);
        Check.row("RENT, six DOWN, UP", Check.lines(v, 0), "1,7,8 2,0,1 2,1,1 2,2,1 2,3,1 2,4,1 2,5,1 3,7,8");
        Check.row("their GATES", Check.gates(v), "1234".repeat(7));

        Sentences.test("Terms 2", "BOOKS 0 to 2 take, of ENTRIES from when they were opened on,");
        TwoTierStore w = Check.made(STORE);
        w.request(0);
        w.book(0, 0, 30);
        w.request(0);
        w.book(2, 0, 30);
        w.request(0);
        Check.row("BOOK 0", Check.lines(w, 0), "1,0,3 3,0,6 0,0,0");
        Check.row("BOOK 1", Check.booked(w, 1), "-1 -1 -1 -1 -1 -1");
        Check.row("BOOK 2", Check.lines(w, 2), "0,0,0");
        w.book(0, 0, 30);
        Check.row("opened anew", Check.lines(w, 0), "");
    }

    private static void kinds() {
        Sentences.test("Terms 2", "all (kind 0), only those that serve (1: kinds 0 and 1), only moves (2: kinds 2 and 3), only those UP (3: kind 3),");
        String[] due = {"1,0,3 1,0,3 3,0,6 0,0,0 1,1,7 2,0,2 3,1,5", "1,0,3 1,0,3 0,0,0 1,1,7", "3,0,6 2,0,2 3,1,5", "3,0,6 3,1,5"};
        for (int kind = 0; kind < 4; kind++) {
            TwoTierStore x = Check.made(STORE);
            x.book(1, kind, 30);
            Check.names(x, "a;a;a;b;");
            Check.row("kind " + kind, Check.lines(x, 1), due[kind]);
        }
    }

    private static void lines() {
        Sentences.test("Terms 2", "as many as they have lines; others are LEFT OUT;");
        TwoTierStore x = Check.made(STORE);
        x.book(0, 2, 3);
        x.book(1, 2, 2);
        x.book(2, 2, 4);
        Check.names(x, "a;a;a;b;");
        Check.row("just so many", Check.lines(x, 0) + " " + Check.booked(x, 0), "3,0,6 2,0,2 3,1,5 3 4 0 13 2 3");
        Check.row("one line less", Check.lines(x, 1) + " " + Check.booked(x, 1), "3,0,6 2,0,2 2 4 1 8 2 2");
        Check.row("one line more", Check.lines(x, 2) + " " + Check.booked(x, 2), "3,0,6 2,0,2 3,1,5 3 4 0 13 2 4");

        Sentences.test("Terms 2", "all that comes when it is full is LOST, whatever it is.");
        TwoTierStore y = Check.made(STORE);
        y.book(0, 3, 1);
        y.book(1, 0, 0);
        y.book(2, 3, 0);
        Check.names(y, "a;a;");
        Check.row("full, none LOST yet", Check.booked(y, 0), "1 2 0 6 3 1");
        Check.row("full from the first on", Check.booked(y, 1), "0 0 3 0 0 0");
        Check.row("full from the first on, whatever it is", Check.booked(y, 2), "0 0 3 0 3 0");
        Check.names(y, "a;b;");
        Check.row("a HIT, RENT, DOWN, UP are LOST all, none is LEFT OUT", Check.booked(y, 0), "1 2 4 6 3 1");
        TwoTierStore z = Check.made("item a 1 1 1;");
        z.carry(0, 1);
        z.book(0, 0, 30);
        Check.names(z, "again 3[again 9[a;];];a;a;a;");
        Check.row("30 lines", Check.booked(z, 0), "30 0 0 0 0 30");
        z.request(0);
        Check.row("the 31st", Check.booked(z, 0), "30 0 1 0 0 30");
    }

    private static void book() {
        Sentences.test("Promise 15", "BOOK k is opened anew for a kind (0 to 3), with so many lines (0 to 30): 0;");
        TwoTierStore x = Check.made(STORE);
        Check.row("the least", x.book(0, 0, 0) + " " + Check.booked(x, 0), "0 0 0 0 0 0 0");
        Check.row("the most", x.book(2, 3, 30) + " " + Check.booked(x, 2), "0 0 0 0 0 3 30");
        Check.row("between", x.book(1, 1, 1) + " " + Check.booked(x, 1), "0 0 0 0 0 1 1");
        Check.names(x, "a;a;b;");
        Check.row("ahead", Check.booked(x, 1) + " " + Check.booked(x, 2), "1 0 5 3 1 1 2 4 0 11 3 30");
        Check.row("anew", x.book(1, 2, 7) + " " + Check.booked(x, 1) + " " + Check.lines(x, 1), "0 0 0 0 0 2 7 ");
        Check.row("others stay", Check.booked(x, 0) + " " + Check.booked(x, 2), "0 0 6 0 0 0 2 4 0 11 3 30");
        Check.row("anew, where some were LEFT OUT", x.book(2, 3, 30) + " " + Check.booked(x, 2), "0 0 0 0 0 3 30");
        Check.names(x, "b;a;a;");
        Check.row("what comes then", Check.booked(x, 0) + " " + Check.booked(x, 2), "0 0 11 0 0 0 1 4 0 6 3 30");

        Sentences.test("Promise 15", "NONE: not as told (below 0, too): it stays.");
        TwoTierStore y = Check.made(STORE);
        y.book(0, 0, 5);
        y.request(0);
        int[][] bad = {{-1, 0, 1}, {3, 0, 1}, {MOST, 0, 1}, {LEAST, 0, 1}, {0, -1, 1}, {0, 4, 1}, {0, MOST, 1}, {0, LEAST, 1},
            {0, 0, -1}, {0, 0, 31}, {0, 0, MOST}, {0, 0, LEAST}, {1, 4, 1}, {1, 0, 31}};
        for (int[] b : bad) {
            Check.due("book(" + b[0] + ", " + b[1] + ", " + b[2] + ")", y.book(b[0], b[1], b[2]), NONE);
        }
        Check.row("it stays", Check.booked(y, 0) + " " + Check.lines(y, 0), "1 0 0 3 0 5 1,0,3");
        Check.row("one that is not opened stays so", Check.booked(y, 1), "-1 -1 -1 -1 -1 -1");
    }

    private static void booked() {
        Sentences.test("Promise 16", "Of BOOK k: 0 lines that are written, 1 LEFT OUT, 2 LOST, 3 all amounts together, 4 its kind, 5 its lines.");
        TwoTierStore x = Check.made(STORE);
        x.book(0, 1, 3);
        x.book(1, 2, 30);
        x.book(2, 3, 1);
        // RENT 3, RENT 3, UP 6, HIT 0, RENT 7, DOWN 2, UP 5
        Check.names(x, "a;a;a;b;");
        Check.row("those that serve", Check.booked(x, 0), "3 1 3 6 1 3");
        Check.row("moves", Check.booked(x, 1), "3 4 0 13 2 30");
        Check.row("those UP", Check.booked(x, 2), "1 2 4 6 3 1");

        Sentences.test("Promise 16", "NONE: it is not opened, no such ones.");
        for (int k : new int[] {3, -1, MOST, LEAST}) {
            Check.due("booked(" + k + ", 0)", x.booked(k, 0), NONE);
        }
        for (int what : new int[] {6, -1, MOST, LEAST}) {
            Check.due("booked(0, " + what + ")", x.booked(0, what), NONE);
        }
        TwoTierStore y = Check.made(STORE);
        y.book(1, 0, 0);
        for (int what = 0; what < 6; what++) {
            Check.row("not opened, opened, not opened", y.booked(0, what) + " " + y.booked(1, what) + " " + y.booked(2, what), "-1 0 -1");
        }
    }

    private static void line() {
        Sentences.test("Promise 17", "Line i of BOOK k: 0 the kind of the ENTRY, 1 its ITEM, 2 its amount.");
        TwoTierStore x = Check.made(STORE);
        x.book(2, 2, 30);
        Check.names(x, "a;a;b;");
        Check.row("the first and the last", x.line(2, 0, 0) + " " + x.line(2, 0, 1) + " " + x.line(2, 0, 2) + " " + x.line(2, 2, 0) + " "
            + x.line(2, 2, 1) + " " + x.line(2, 2, 2), "3 0 6 3 1 5");

        Sentences.test("Promise 17", "NONE: no such ones.");
        for (int i : new int[] {3, 29, 30, -1, MOST, LEAST}) {
            Check.due("line(2, " + i + ", 0)", x.line(2, i, 0), NONE);
        }
        for (int what : new int[] {3, -1, MOST, LEAST}) {
            Check.due("line(2, 0, " + what + ")", x.line(2, 0, what), NONE);
        }
        for (int k : new int[] {0, 1, 3, -1, MOST, LEAST}) {
            Check.due("line(" + k + ", 0, 0)", x.line(k, 0, 0), NONE);
        }
        TwoTierStore y = Check.made("item a 1 1 1;");
        y.carry(0, 1);
        y.book(0, 0, 30);
        y.drawn(40, 1);
        Check.row("lines 29 and 30", y.line(0, 29, 0) + " " + y.line(0, 29, 1) + " " + y.line(0, 30, 0), "0 0 -1");
    }

    // ---- GATES ----

    private static void gates() {
        Sentences.test("Terms 3", "GATES: whatever goes DOWN, UP goes through the GATE of SLOW, and within this that of FAST;");
        TwoTierStore x = Check.made("room 4;item a 2 6 6;item b 2 5 5;item c 4 9 9;item d 5 1 1;");
        x.request(0);
        Check.row("one UP", Check.gates(x), "1234");
        x.request(2);
        Check.row("one DOWN, one UP", Check.gates(x), "12341234");
        x.carry(2, 0);
        Check.row("DOWN by hand", Check.gates(x), "1234");
        x.shift(3, 2);
        Check.row("two UP by RIDES", Check.gates(x), "12341234");
        x.request(2);
        Check.row("two DOWN, one UP", Check.gates(x), "123412341234");
        x.request(2);
        x.request(3);
        Check.row("a HIT, a RENT open none", Check.gates(x), "123412341234");

        Sentences.test("Terms 3", "each is opened and shut again, the inner one first, whatever comes (so too when a hand carries what can't be).");
        x.carry(2, 1);
        Check.row("it is there", Check.gates(x), "1234");
        x.request(0);
        Check.row("ahead", Check.gates(x), "12341234");
        x.carry(3, 1);
        Check.row("there is too little room", Check.gates(x), "1234");
        x.request(2);
        x.carry(4, 1);
        x.carry(0, 2);
        Check.row("no such ones open none", Check.gates(x), "12341234");

        Sentences.test("Terms 3", "Of the latest call that opened any, in order: 1 SLOW opened, 2 FAST opened, 3 FAST shut, 4 SLOW shut;");
        TwoTierStore y = Check.made("room 4;rule once;item a 2 6 1;item b 2 5 1;item c 4 9 1;");
        Check.names(y, "a;b;");
        Check.row("all of names()", Check.gates(y), "12341234");
        TwoTierStore v = Check.made("room 1;rule once;item a 1 6 1;");
        v.carry(0, 0);
        v.drawn(1, 1);
        Check.row("all of drawn(), and of it alone", Check.gates(v), "1234");
        v.carry(0, 1);
        v.rule(1);
        v.shift(1, 1);
        Check.row("all of shift(), and of it alone", Check.gates(v), "1234");
        y.request(0);
        y.request(1);
        Check.names(y, "");
        y.rides(0, 4);
        y.shift(3, 4);
        y.victims(2);
        y.soon(2);
        y.curve(2, 0);
        y.would(1);
        y.request(9);
        y.image(0);
        y.undo();
        y.restore(0);
        y.room(5);
        y.rule(1);
        Check.store(y, "#");
        Check.store(y, "");
        Check.row("none of these opened any", Check.gates(y), "12341234");

        Sentences.test("Terms 3", "60 at most are told.");
        TwoTierStore z = Check.made("room 1;rule once;item a 1 6 1;item b 1 5 1;");
        Check.names(z, "again 7[a;b;];");
        Check.row("14 UP, 13 DOWN", Check.gates(z), "1234".repeat(15));
        Check.row("gate(59), gate(60)", z.gate(59) + " " + z.gate(60), "4 -1");
        z.rule(1);
        z.rule(0);
        Check.names(z, "again 4[a;b;];");
        Check.row("8 UP, 7 DOWN", Check.gates(z), "1234".repeat(15));
        Check.row("gate(59), gate(60)", z.gate(59) + " " + z.gate(60), "4 -1");
        z.rule(1);
        z.rule(0);
        Check.names(z, "a;");
        Check.names(z, "again 3[b;a;];b;");
        Check.row("7 UP, 7 DOWN", Check.gates(z), "1234".repeat(14));
        Check.row("gate(55), gate(56)", z.gate(55) + " " + z.gate(56), "4 -1");
    }

    private static void gateOf() {
        Sentences.test("Promise 14", "Gate i of the latest call that opened any; NONE: none such.");
        TwoTierStore x = Check.made("room 2;rule once;item a 1 6 1;item b 1 5 1;");
        Check.due("ahead of any", x.gate(0), NONE);
        x.carry(0, 1);
        Check.row("gates 0 to 4", x.gate(0) + " " + x.gate(1) + " " + x.gate(2) + " " + x.gate(3) + " " + x.gate(4), "1 2 3 4 -1");
        for (int i : new int[] {-1, 60, MOST, LEAST}) {
            Check.due("gate(" + i + ")", x.gate(i), NONE);
        }
        x.shift(2, 2);
        Check.row("of a later call", x.gate(4) + " " + x.gate(7) + " " + x.gate(8), "1 4 -1");
        x.carry(1, 1);
        Check.row("of the latest alone", x.gate(3) + " " + x.gate(4), "4 -1");
    }
}
