/** The boundaries of SHIFT and DRAWN ("Terms" 3) and of promises 31 to 34 and 36 to 38: rides, draws, undoing, images. */
final class BoundsOfShifts {
    private static final int NONE = TwoTierStore.NONE;
    private static final int MOST = Integer.MAX_VALUE;
    private static final int LEAST = Integer.MIN_VALUE;
    private static final String STORE = "room 6;item a 3 6 3;item b 3 2 1;item c 1 4 2;";
    private static final String EIGHT = "item a 1 1 1;item b 1 1 1;item c 1 1 1;item d 1 1 1;item e 1 1 1;item f 1 1 1;item g 1 1 1;item h 1 1 1;";

    private BoundsOfShifts() {
    }

    static void all() {
        shifts();
        fewest();
        draws();
        rides();
        shift();
        drawn();
        undone();
        notUndone();
        eightUndone();
        image();
        restore();
    }

    /** The answer of rides(), and its RIDES behind it. */
    private static String told(TwoTierStore x, int set, int limit) {
        int n = x.rides(set, limit);
        return n == NONE ? "none" : n + (n == 0 ? "" : ": " + Check.rides(x));
    }

    // ---- Terms 3 ----

    private static void shifts() {
        Sentences.test("Terms 3", "A SHIFT to a set of ITEMS (SIZES together not above ROOM) by RIDES:");
        TwoTierStore x = Check.made(STORE);
        Check.row("just ROOM, one above", told(x, 3, 40) + " " + told(x, 7, 40), "1: 3 none");
        x.room(7);
        Check.row("ROOM 7", told(x, 7, 40), "1: 7");
        x.room(5);
        Check.row("ROOM 5", told(x, 3, 40) + " " + told(x, 5, 40), "none 1: 5");

        Sentences.test("Terms 3", "in one each of those that are to go (DOWN, UP: those in just one of both sets) may go, SIZES together not above the LIMIT,");
        TwoTierStore y = Check.made(STORE);
        Check.row("LIMIT 6, 5, 3, 2", told(y, 3, 6) + " " + told(y, 3, 5) + " " + told(y, 3, 3) + " " + told(y, 3, 2), "1: 3 2: 1 2 2: 1 2 none");
        y.carry(0, 1);
        Check.row("DOWN and UP are one load", told(y, 2, 6) + " " + told(y, 2, 5), "1: 3 2: 1 2");
        Check.row("what is in both sets does not go", told(y, 5, 1) + " " + told(y, 1, 1), "1: 4 0");
        Check.row("what is in neither does not go", told(y, 0, 3), "1: 1");

        Sentences.test("Terms 3", "all DOWN ahead of all UP; ROOM is never exceeded.");
        TwoTierStore z = Check.made("room 3;item a 3 1 1;item b 3 1 1;");
        z.carry(1, 1);
        Check.row("in one RIDE b makes room for a", told(z, 1, 6), "1: 3");
        Check.row("in two b goes first", told(z, 1, 5), "2: 2 1");
        TwoTierStore w = Check.made("room 6;item a 3 1 1;item b 3 1 1;");
        w.carry(1, 1);
        Check.row("where both fit, the least number goes first", told(w, 1, 5), "2: 1 2");
        TwoTierStore v = Check.made("room 5;item a 3 1 1;item b 3 1 1;");
        v.carry(1, 1);
        Check.row("one too little", told(v, 1, 5), "2: 2 1");
    }

    private static void fewest() {
        Sentences.test("Terms 3", "The fewest RIDES; of such rows the first: RIDE by RIDE the least number of the set that goes.");
        TwoTierStore x = Check.made("room 12;item a 3 1 1;item b 2 1 1;item c 3 1 1;item d 2 1 1;item e 2 1 1;");
        Check.row("12 by 6: threes together, twos together", told(x, 31, 6), "2: 5 26");
        Check.row("12 by 5: three at least", told(x, 31, 5), "3: 1 6 24");
        Check.row("12 by 12", told(x, 31, 12), "1: 31");
        Check.row("12 by 11", told(x, 31, 11), "2: 1 30");
        TwoTierStore z = Check.made("room 6;item a 6 1 1;item b 3 1 1;item c 3 1 1;");
        z.carry(0, 1);
        Check.row("one that must go first, alone", told(z, 6, 6), "2: 1 6");
        TwoTierStore y = Check.made("room 8;" + EIGHT);
        Check.row("one by one", told(y, 255, 1), "8: 1 2 4 8 16 32 64 128");
        Check.row("seven and one", told(y, 255, 7), "2: 1 254");
        Check.row("all", told(y, 255, 8), "1: 255");
        y.shift(255, 8);
        Check.row("all DOWN", told(y, 0, 4), "2: 15 240");
    }

    /** The draws as long numbers, so that nothing wraps but by the mask. */
    private static long seed;

    private static int draw(int n) {
        seed = (seed * 1103515245L + 12345L) & 0xffffffffL;
        return (int) ((seed >> 8) % n);
    }

    private static void draws() {
        Sentences.test("Terms 3", "DRAWN by a seed x: for each draw of n x becomes x * 1103515245 + 12345 (an int, wrapping), the draw is (x >>> 8) % n:");
        for (int s : new int[] {0, 1, -1, 2, 1000000, MOST, LEAST, LEAST + 1}) {
            TwoTierStore x = Check.made(EIGHT);
            x.drawn(40, s);
            seed = s & 0xffffffffL;
            for (int i = 0; i < 40; i++) {
                int kind = draw(3);
                int first = draw(8);
                Check.due("REQUEST " + i + " by seed " + s, x.log(i, 0), kind == 0 ? first : draw(first + 1));
            }
        }

        Sentences.test("Terms 3", "each of so many REQUESTS: a draw of 3: 0: of ITEMS; else of ITEMS, and of as many as that and 1 (the ITEM asked for).");
        // by seed 0: 12345, (48) % 3 = 0; 3554416254, (13884438) % 8 = 6
        TwoTierStore y = Check.made(EIGHT);
        y.drawn(1, 0);
        Check.due("by seed 0: of ITEMS alone", y.log(0, 0), 6);
        // by seed 1: 1103527590, (4310654) % 3 = 2; 2524885223, (9862832) % 8 = 0; then of 1
        TwoTierStore w = Check.made(EIGHT);
        w.drawn(1, 1);
        Check.due("by seed 1: of ITEMS, and of 1", w.log(0, 0), 0);
        TwoTierStore z = Check.made("item a 1 60 1;");
        z.drawn(40, 7);
        Check.row("of one ITEM", z.now(6) + " " + z.spent(0, 0), "40 40");
    }

    // ---- promises 31 to 34 ----

    private static void rides() {
        Sentences.test("Promise 31", "SHIFT to a set by a LIMIT (1 to 40): the fewest RIDES;");
        TwoTierStore x = Check.made(STORE);
        Check.row("LIMIT 0, 1, 40, 41", told(x, 4, 0) + " " + told(x, 4, 1) + " " + told(x, 4, 40) + " " + told(x, 4, 41), "none 1: 4 1: 4 none");
        Check.row("the set as it is", told(x, 0, 1) + " " + told(x, 0, 40), "0 0");

        Sentences.test("Promise 31", "NONE: no such set, not as told, one that is to go is of a SIZE above the LIMIT.");
        for (int set : new int[] {8, 9, 256, -1, -8, MOST, LEAST}) {
            Check.due("rides(" + set + ", 40)", x.rides(set, 40), NONE);
        }
        for (int limit : new int[] {0, 41, -1, MOST, LEAST}) {
            Check.due("rides(0, " + limit + ")", x.rides(0, limit), NONE);
        }
        Check.due("above ROOM", x.rides(7, 40), NONE);
        Check.row("SIZE 3 by 3 and 2", told(x, 1, 3) + " " + told(x, 1, 2), "1: 1 none");
        x.carry(0, 1);
        Check.row("DOWN by 3 and 2", told(x, 0, 3) + " " + told(x, 0, 2), "1: 1 none");
        Check.row("it stays: it does not matter", told(x, 5, 1), "1: 4");
        TwoTierStore y = Check.made("room 8;" + EIGHT);
        Check.row("of eight ITEMS", told(y, 255, 40) + " " + told(y, 256, 40), "1: 255 none");

        Sentences.test("Promise 31", "Nothing is done.");
        Check.row("now", BoundsOfRequests.nows(y) + " " + Check.gates(y) + " " + y.undo(), "8 1 8 0 8 0 0 0 0 0  -1");

        Sentences.test("Promise 32", "The set that goes in RIDE i (from 0) of the latest rides() that was not NONE; NONE: none such.");
        TwoTierStore z = Check.made(STORE);
        Check.due("ahead of any", z.ride(0), NONE);
        z.rides(3, 3);
        Check.row("two RIDES", z.ride(0) + " " + z.ride(1) + " " + z.ride(2), "1 2 -1");
        z.rides(3, 2);
        z.rides(7, 40);
        z.rides(3, 0);
        z.shift(4, 1);
        z.carry(0, 1);
        Check.row("those that were NONE, and others", z.ride(0) + " " + z.ride(1) + " " + z.ride(2), "1 2 -1");
        for (int i : new int[] {-1, 8, MOST, LEAST}) {
            Check.due("ride(" + i + ")", z.ride(i), NONE);
        }
        z.rides(5, 1);
        Check.due("of no RIDES", z.ride(0), NONE);
        y.rides(255, 1);
        Check.row("of eight", y.ride(7) + " " + y.ride(8), "128 -1");
    }

    private static void shift() {
        Sentences.test("Promise 33", "That SHIFT is done: as carry() would, one by one, RIDE by RIDE (DOWN ahead of UP, by numbers; ENTRIES, GATES, PRICES likewise): how many ITEMS went;");
        TwoTierStore x = Check.made("room 6;item a 2 6 3;item b 3 2 1;item c 1 4 2;item d 3 5 1;");
        x.request(0);
        Check.due("how many", x.shift(6, 40), 2);
        x.book(0, 0, 30);
        Check.due("two DOWN, two UP", x.shift(9, 40), 4);
        Check.row("ENTRIES", Check.lines(x, 0), "2,1,3 2,2,1 3,0,6 3,3,5");
        Check.row("GATES", Check.gates(x), "1234".repeat(4));
        Check.row("PRICES, not in the LOG", BoundsOfRequests.nows(x) + " " + x.log(0, 1), "6 1 4 9 1 20 1 0 2 4 3");
        Check.row("full DENSITY, COUNTER 0", x.item(0, 3) + " " + x.item(3, 3) + " " + x.item(0, 4), "180 100 0");
        // a and d lie there (5 of 6); by 3 the RIDES are a with c, b, d, and b does not fit beside d and one of both
        x.book(0, 0, 30);
        Check.due("RIDE by RIDE", x.shift(6, 3), 4);
        Check.row("a DOWN, c UP; d DOWN; b UP", Check.lines(x, 0), "2,0,2 3,2,4 2,3,3 3,1,2");
        Check.due("none goes", x.shift(6, 1), 0);
        Check.row("it opens no GATES", Check.gates(x), "1234".repeat(4));
        Check.due("one", x.shift(4, 3), 1);
        TwoTierStore y = Check.made("room 8;" + EIGHT);
        Check.row("eight RIDES", y.shift(255, 1) + " " + y.now(3) + " " + Check.gates(y), "8 255 " + "1234".repeat(8));
        Check.row("one RIDE behind eight", y.shift(1, 40) + " " + y.now(3) + " " + y.now(8), "7 1 7");
        Check.row("two RIDES behind one", y.shift(6, 2) + " " + y.now(3) + " " + y.now(8) + " " + y.now(9), "3 6 8 10");

        Sentences.test("Promise 33", "NONE: as for rides().");
        String ahead = BoundsOfRequests.nows(x) + Check.gates(x) + Check.booked(x, 0);
        int[][] bad = {{16, 40}, {-1, 40}, {MOST, 40}, {LEAST, 40}, {15, 40}, {4, 0}, {4, 41}, {4, -1}, {4, MOST}, {4, LEAST}, {2, 2}, {6, 2}};
        for (int[] b : bad) {
            Check.due("shift(" + b[0] + ", " + b[1] + ")", x.shift(b[0], b[1]), NONE);
        }
        Check.row("nothing is done", BoundsOfRequests.nows(x) + Check.gates(x) + Check.booked(x, 0), ahead);
        Check.due("the same by LIMIT 40", x.shift(6, 40), 1);
    }

    private static void drawn() {
        Sentences.test("Promise 34", "n (1 to 40) REQUESTS DRAWN by a seed (so many as the LOG has room for): what was PAID;");
        TwoTierStore x = Check.made(STORE);
        Check.row("1", x.drawn(1, 5) + " " + x.now(6), x.now(5) + " 1");
        Check.row("38 more", x.drawn(38, 5) >= 0 ? x.now(6) + "" : "none", "39");
        int before = x.now(5);
        int paid = x.drawn(2, 5);
        Check.row("one of two", x.now(6) + " " + paid, 40 + " " + (x.now(5) - before));
        Check.row("none of one", x.drawn(1, 5) + " " + x.now(6), "0 40");
        Check.row("none of 40", x.drawn(40, 5) + " " + x.now(6), "0 40");
        x.room(7);
        Check.row("40 of 40", x.drawn(40, 5) > 0 ? x.now(6) + "" : "none", "40");

        Sentences.test("Promise 34", "NONE: not as told, no ITEMS.");
        for (int n : new int[] {0, 41, -1, MOST, LEAST}) {
            Check.due("drawn(" + n + ", 1)", x.drawn(n, 1), NONE);
        }
        Check.due("no ITEMS", new TwoTierStore().drawn(1, 1), NONE);
        TwoTierStore y = Check.made("room 3;rule once;");
        Check.row("no ITEMS, nothing to undo", y.drawn(40, 1) + " " + y.undo(), "-1 -1");
    }

    // ---- promises 36 to 38 ----

    private static void undone() {
        Sentences.test("Promise 36", "The latest request() of 0 or more, names(), drawn() of 0 or more (done or not), carry() of 0, shift() above 0, room(), rule() that was not NONE is undone");
        TwoTierStore x = Check.made(STORE);
        String[] seen = new String[9];
        for (int i = 0; i < 8; i++) {
            seen[i] = seen(x);
            switch (i) {
                case 0: Check.due("request() above 0", x.request(0), 3); break;
                case 1: Check.due("names()", Check.names(x, "a;b;c;"), 9 + 1 + 2); break;
                case 2: Check.due("request() of 0", x.request(0), 0); break;
                case 3: Check.due("carry()", x.carry(1, 1), 0); break;
                case 4: Check.due("drawn()", x.drawn(3, 9) >= 0, true); break;
                case 5: Check.due("shift()", x.shift(6, 40) > 0, true); break;
                case 6: Check.due("room()", x.room(9), 2); break;
                default: Check.due("rule()", x.rule(2), 0); break;
            }
        }
        for (int i = 7; i >= 0; i--) {
            Check.due("undo() of call " + i, x.undo(), i);
            Check.row("as ahead of call " + i, seen(x), seen[i]);
        }
        Check.due("none is", x.undo(), NONE);
        Check.names(x, "a;a;b;b;");
        String four = seen(x);
        x.room(7);
        Check.names(x, "c;c;c;b;a;");
        String five = seen(x);
        x.rule(0);
        Check.names(x, "b;c;a;");
        x.undo();
        x.undo();
        Check.row("a LOG that another came behind", seen(x), five);
        x.undo();
        x.undo();
        Check.row("a LOG that two others came behind", seen(x), four);
        x.undo();
        Check.names(x, "");
        x.drawn(40, 1);
        Check.names(x, "a;");
        x.drawn(1, 1);
        Check.row("names() of none, drawn(), names() and drawn() with a full LOG", x.undo() + " " + x.now(6) + " " + x.undo() + " " + x.now(6) + " "
            + x.undo() + " " + x.now(6) + " " + x.undo() + " " + x.undo(), "3 40 2 40 1 0 0 -1");

        Sentences.test("Promise 36", "(BOOKS are as they were ahead of it, too):");
        TwoTierStore z = Check.made(STORE);
        z.book(0, 3, 1);
        z.book(1, 1, 2);
        Check.names(z, "a;a;b;b;");
        String full = Check.booked(z, 0) + " " + Check.booked(z, 1);
        Check.row("LEFT OUT and LOST", full, "1 2 3 6 3 1 2 0 4 6 1 2");
        Check.names(z, "c;c;a;");
        z.book(0, 0, 0);
        z.request(0);
        z.undo();
        z.undo();
        Check.row("LEFT OUT and LOST, as they were", Check.booked(z, 0) + " " + Check.booked(z, 1), full);
        TwoTierStore y = Check.made(STORE);
        y.book(0, 0, 2);
        y.request(0);
        y.book(1, 0, 5);
        y.request(0);
        y.book(0, 3, 9);
        y.book(1, 1, 1);
        y.book(2, 2, 2);
        y.carry(2, 1);
        y.undo();
        Check.row("opened ahead of it: they stay", Check.booked(y, 0) + " " + Check.booked(y, 1) + " " + Check.booked(y, 2), "0 0 0 0 3 9 0 0 0 0 1 1 0 0 0 0 2 2");
        y.undo();
        Check.row("opened behind it: as they were", Check.booked(y, 0) + " " + Check.lines(y, 0) + " " + Check.booked(y, 1) + " " + y.booked(2, 0),
            "1 0 0 3 0 2 1,0,3 0 0 0 0 0 5 -1");
        y.undo();
        Check.row("ahead of all", Check.booked(y, 0) + " " + y.booked(1, 0), "0 0 0 0 0 2 -1");
    }

    private static void notUndone() {
        Sentences.test("Promise 36", "NONE: none is.");
        TwoTierStore x = Check.made("room 5;item a 3 6 3;item b 3 2 1;item c 1 4 2;item d 6 1 1;");
        x.carry(0, 1);
        x.drawn(40, 1);
        String ahead = seen(x);
        int fast = x.now(3);
        Check.row("request() of -2, of -3", x.request(4) + " " + x.request(0), "-2 -3");
        Check.row("names() of a FAULT", Check.names(x, "who;") + " " + Check.names(x, "a"), "-1000 -1001");
        Check.row("drawn() that was NONE", x.drawn(0, 1) + " " + x.drawn(41, 1), "-1 -1");
        Check.row("carry() of 1, 2, -2", x.carry(0, fast & 1) + " " + x.carry(3, 1) + " " + x.carry(4, 1), "1 2 -2");
        Check.row("shift() of 0, that was NONE", x.shift(fast, 1) + " " + x.shift(16, 1), "0 -1");
        Check.row("room(), rule() that were NONE", x.room(5) + " " + x.room(21) + " " + x.rule(1) + " " + x.rule(3), "-1 -1 -1 -1");
        Check.due("store() of a FAULT", Check.store(x, "#"), -1000);
        x.rides(0, 40);
        x.soon(0);
        x.victims(1);
        x.picture();
        x.image(0);
        Check.row("as it was", seen(x), ahead);
        Check.row("none of these, but drawn() and carry()", x.undo() + " " + x.now(6) + " " + x.undo() + " " + x.now(3) + " " + x.undo(), "1 0 0 0 -1");
        x.request(0);
        Check.store(x, STORE);
        Check.due("behind store()", x.undo(), NONE);
        x.request(0);
        x.restore(0);
        Check.due("behind restore()", x.undo(), NONE);
    }

    private static void eightUndone() {
        Sentences.test("Promise 36", "how many more can be (8 at most are kept);");
        for (int calls : new int[] {1, 7, 8, 9, 20}) {
            TwoTierStore x = Check.made(STORE);
            for (int i = 0; i < calls; i++) {
                x.request(2);
            }
            int kept = Math.min(8, calls);
            for (int left = kept - 1; left >= 0; left--) {
                Check.row("undo() behind " + calls, x.undo() + " " + x.now(6), left + " " + (calls - kept + left));
            }
            Check.row("none more", x.undo() + " " + x.now(6), "-1 " + (calls - kept));
        }
        TwoTierStore y = Check.made(STORE);
        for (int round = 0; round < 5; round++) {
            for (int i = 0; i < 6; i++) {
                y.request(2);
            }
            Check.row("undo() between", y.undo() + " " + y.undo() + " " + y.undo(), round == 0 ? "5 4 3" : "7 6 5");
        }
        Check.due("what stays", y.now(6), 15);
    }

    private static String seen(TwoTierStore x) {
        StringBuilder row = new StringBuilder();
        for (int what = 0; what < 10; what++) {
            row.append(what == 7 ? 0 : x.now(what)).append(' ');
        }
        for (int what = 0; what < 6; what++) {
            row.append(BoundsOfRequests.items(x, what)).append(" / ");
        }
        for (int i = 0; i < x.now(6); i++) {
            row.append(x.log(i, 0)).append(',').append(x.log(i, 1)).append(',').append(x.log(i, 2)).append(',').append(x.plan(i, 1)).append(',')
                .append(x.potential(i)).append(' ');
        }
        for (int k = 0; k < 3; k++) {
            row.append(Check.booked(x, k)).append(" [").append(Check.lines(x, k)).append("] ");
        }
        return row.append(x.best()).toString();
    }

    private static void image() {
        Sentences.test("Promise 37", "The STORE with all that lies, was paid, BOOKS and LOG are kept in place k (0, 1): true;");
        TwoTierStore x = Check.made(STORE);
        x.book(0, 0, 9);
        x.book(2, 3, 1);
        Check.names(x, "a;a;b;c;c;");
        x.carry(0, 0);
        String first = seen(x);
        Check.due("image(0)", x.image(0), true);
        Check.row("nothing is changed", seen(x), first);
        Check.row("and can still be undone", x.undo() + " " + x.undo(), "1 0");
        Check.store(x, "room 20;rule heat;item zz 6 60 20;");
        x.request(0);
        String second = seen(x);
        Check.due("image(1)", x.image(1), true);
        x.room(3);
        x.book(1, 0, 3);
        x.restore(0);
        Check.row("place 0", seen(x) + Check.picture(x), first + "c.....");
        x.restore(1);
        Check.row("place 1", seen(x) + Check.picture(x), second + ".".repeat(20));
        x.image(0);
        x.request(0);
        x.restore(0);
        Check.row("place 0, kept anew", seen(x), second);

        Sentences.test("Promise 37", "false: no such one.");
        for (int k : new int[] {2, -1, MOST, LEAST}) {
            Check.due("image(" + k + ")", x.image(k), false);
        }
    }

    private static void restore() {
        Sentences.test("Promise 38", "It is as kept in place k (the tape, FAULT, what rides(), GATES told stay; nothing can be undone): true;");
        TwoTierStore x = Check.made(STORE);
        x.carry(0, 1);
        x.image(1);
        String kept = seen(x);
        Check.names(x, "b;c;");
        x.shift(2, 40);
        x.rides(3, 3);
        x.picture();
        Check.names(x, "again 0");
        x.feed(1, 2, 3, 4, 5);
        x.end(17);
        String gates = Check.gates(x);
        Check.due("restore(1)", x.restore(1), true);
        Check.row("as kept", seen(x), kept);
        Check.row("tape, FAULT, RIDES, GATES", x.now(7) + " " + x.fault() + " " + Check.rides(x) + " " + Check.gates(x), "17 2 1 " + gates);
        Check.row("the latest picture()", x.byteAt(0) + " " + x.byteAt(3), (int) 'b' + " 46");
        Check.due("nothing can be undone", x.undo(), NONE);
        x.request(1);
        Check.row("but what comes then", x.undo() + " " + x.undo() + " " + seen(x), "0 -1 " + kept);
        x.drawn(9, 9);
        Check.row("as often as wanted", x.restore(1) + " " + seen(x), "true " + kept);

        Sentences.test("Promise 38", "false: no such one, or nothing is kept there.");
        TwoTierStore y = Check.made(STORE);
        y.request(0);
        String ahead = seen(y);
        for (int k : new int[] {0, 1, 2, -1, MOST, LEAST}) {
            Check.due("restore(" + k + ")", y.restore(k), false);
        }
        y.image(0);
        Check.row("the other place", y.restore(1) + " " + y.image(2) + " " + y.restore(2), "false false false");
        Check.row("nothing is changed", seen(y) + y.undo(), ahead + "0");
        Check.due("restore(0)", y.restore(0), true);
        Check.due("an image of a STORE without ITEMS", emptyImage(), true);
    }

    private static boolean emptyImage() {
        TwoTierStore x = new TwoTierStore();
        x.image(0);
        Check.store(x, STORE);
        return x.restore(0) && x.now(2) == 0 && x.now(0) == 6 && x.request(0) == -2;
    }
}
