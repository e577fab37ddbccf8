/** Promises 31 to 34 and 36 to 38: rides, draws, undoing, images. */
public final class ShiftsTest {
    private static final int NONE = TwoTierStore.NONE;
    private static final String FOUR = "room 6;item a 2 6 3;item b 3 2 1;item c 4 4 2;item d 1 9 3;";

    public static void main(String[] args) {
        promises31and32();
        promise31Room();
        promise33();
        promise34();
        promise36();
        promise36All();
        promise36Kinds();
        promise36Eight();
        promises37and38();
        Check.finish();
    }

    private static void rides(TwoTierStore x, int set, int limit, int n, String row) {
        Check.due("rides(" + set + ", " + limit + ")", x.rides(set, limit), n);
        Check.row("ride() of rides(" + set + ", " + limit + ")", Check.rides(x), row);
    }

    private static void promises31and32() {
        TwoTierStore x = Check.made(FOUR);
        Check.due("ride(0) ahead of any", x.ride(0), NONE);
        rides(x, 11, 6, 1, "11");
        rides(x, 11, 5, 2, "1 10");
        rides(x, 11, 3, 2, "2 9");
        Check.due("no such set", x.rides(16, 6), NONE);
        Check.due("no such set", x.rides(-1, 6), NONE);
        Check.due("above ROOM", x.rides(6, 40), NONE);
        Check.due("LIMIT 0", x.rides(0, 0), NONE);
        Check.due("LIMIT 41", x.rides(0, 41), NONE);
        Check.due("a SIZE above the LIMIT", x.rides(4, 3), NONE);
        Check.due("a SIZE above the LIMIT", x.rides(1, 1), NONE);
        Check.row("the latest that was not NONE", Check.rides(x), "2 9");
        Check.due("ride(2)", x.ride(2), NONE);
        Check.due("ride(-1)", x.ride(-1), NONE);
        Check.row("nothing is done", x.now(3) + " " + x.now(5) + " " + x.undo(), "0 0 -1");
        rides(x, 0, 1, 0, "");
        rides(x, 4, 40, 1, "4");
        x.carry(2, 1);
        Check.due("c is to go", x.rides(0, 3), NONE);
        Check.due("c is to stay", x.rides(12, 1), 1);
    }

    private static void promise31Room() {
        TwoTierStore x = Check.made(FOUR);
        x.carry(2, 1);
        x.carry(3, 1);
        // c and d lie there (5 of 6): neither a nor b comes ahead of c
        rides(x, 3, 10, 1, "15");
        rides(x, 3, 7, 2, "4 11");
        rides(x, 3, 4, 3, "4 1 10");
        rides(x, 11, 4, 3, "4 1 2");
        rides(x, 11, 6, 2, "4 3");
        TwoTierStore y = Check.made("room 6;item a 6 1 1;item b 6 1 1;");
        y.carry(0, 1);
        Check.due("b can't go ahead of a", y.rides(2, 11), 2);
        Check.row("first a", Check.rides(y), "1 2");
        Check.due("both at once", y.rides(2, 12), 1);
        TwoTierStore z = Check.made("item a 1 1 1;item b 1 1 1;item c 1 1 1;item d 1 1 1;item e 1 1 1;item f 1 1 1;item g 1 1 1;item h 1 1 1;room 8;");
        Check.due("one by one", z.rides(255, 1), 8);
        Check.row("by numbers", Check.rides(z), "1 2 4 8 16 32 64 128");
        rides(z, 255, 3, 3, "3 28 224");
        Check.due("ride(7)", z.ride(7), NONE);
    }

    private static void promise33() {
        TwoTierStore x = Check.made(FOUR);
        x.carry(2, 1);
        x.carry(3, 1);
        x.rides(12, 3);
        x.book(0, 0, 30);
        Check.due("shift(3, 7)", x.shift(3, 7), 4);
        Check.row("ENTRIES", Check.lines(x, 0), "2,2,4 2,3,1 3,0,6 3,1,2");
        Check.row("GATES", Check.gates(x), "1234".repeat(4));
        Check.row("now", x.now(3) + " " + x.now(4) + " " + x.now(5) + " " + x.now(6) + " " + x.now(8) + " " + x.now(9), "3 1 21 0 2 4");
        Check.due("full DENSITY", x.item(0, 3), 180);
        Check.due("nothing goes", x.shift(3, 1), 0);
        Check.row("it opens no GATES", Check.gates(x), "1234".repeat(4));
        Check.due("ride() tells of rides() alone", x.ride(0), NONE);
        Check.due("no such set", x.shift(16, 6), NONE);
        Check.due("above ROOM", x.shift(7, 40), NONE);
        Check.due("LIMIT 0", x.shift(3, 0), NONE);
        Check.due("LIMIT 41", x.shift(3, 41), NONE);
        Check.due("a SIZE above the LIMIT", x.shift(4, 3), NONE);
        Check.due("FAST stays", x.now(3), 3);
        x.request(2);
        Check.due("the COUNTER of c", x.item(2, 4), 2);
        Check.due("shift(4, 40)", x.shift(4, 40), 3);
        Check.due("COUNTER 0", x.item(2, 4), 0);
        Check.row("by numbers, DOWN ahead of UP", Check.lines(x, 0), "2,2,4 2,3,1 3,0,6 3,1,2 1,2,2 2,0,2 2,1,3 3,2,4");
    }

    private static int seed;

    private static int draw(int n) {
        seed = seed * 1103515245 + 12345;
        return (seed >>> 8) % n;
    }

    private static void promise34() {
        TwoTierStore x = Check.made(FOUR);
        Check.due("drawn(0, 1)", x.drawn(0, 1), NONE);
        Check.due("drawn(41, 1)", x.drawn(41, 1), NONE);
        Check.due("drawn(-1, 1)", x.drawn(-1, 1), NONE);
        int[] seeds = {0, 1, -1, 77777, Integer.MIN_VALUE, Integer.MAX_VALUE};
        for (int s : seeds) {
            TwoTierStore y = Check.made(FOUR);
            seed = s;
            int paid = y.drawn(40, s);
            for (int i = 0; i < 40; i++) {
                int item = draw(3) == 0 ? draw(4) : draw(draw(4) + 1);
                Check.due("draw " + i + " by " + s, y.log(i, 0), item);
            }
            Check.due("what was PAID", paid, y.now(5));
            Check.due("the LOG is full", y.drawn(3, s), 0);
            Check.due("none more", y.now(6), 40);
        }
        Check.due("drawn(39, 5)", x.drawn(39, 5) >= 0, true);
        int before = x.now(5);
        int paid = x.drawn(9, 5);
        Check.due("so many as the LOG has room for", x.now(6), 40);
        Check.due("what was PAID in the one", paid, x.now(5) - before);
        Check.due("without ITEMS", new TwoTierStore().drawn(1, 1), NONE);
    }

    private static void promise36() {
        TwoTierStore x = Check.made(FOUR);
        Check.due("undo() ahead of any", x.undo(), NONE);
        x.book(0, 0, 9);
        x.request(0);
        x.request(0);
        x.book(1, 0, 9);
        Check.row("ahead", x.now(3) + " " + x.now(5) + " " + x.now(6) + " " + x.now(9) + " " + x.booked(0, 0), "1 12 2 1 3");
        Check.due("undo()", x.undo(), 1);
        Check.row("behind", x.now(3) + " " + x.now(5) + " " + x.now(6) + " " + x.now(9) + " " + x.booked(0, 0), "0 3 1 0 1");
        Check.due("BOOKS as they were ahead of it", x.booked(1, 0), NONE);
        Check.due("COUNTER", x.item(0, 4), 3);
        Check.due("HEAT", x.item(0, 5), Float.floatToIntBits(1f));
        Check.due("best()", x.best(), 3);
        Check.due("undo()", x.undo(), 0);
        Check.due("HEAT", x.item(0, 5), 0);
        Check.due("undo()", x.undo(), NONE);
        Check.due("best()", x.best(), NONE);
        x.feed(1, 2, 3, 4, 5);
        x.request(0);
        x.undo();
        Check.due("the tape stays", x.now(7), 20);
    }

    private static void promise36All() {
        TwoTierStore x = Check.made(FOUR);
        x.book(0, 0, 3);
        x.book(1, 2, 2);
        Check.names(x, "a;a;b;b;d;");
        String first = seen(x);
        x.room(9);
        Check.names(x, "c;c;c;d;d;");
        String second = seen(x);
        x.request(0);
        x.book(0, 1, 9);
        x.book(1, 3, 0);
        Check.names(x, "d;d;a;");
        Check.due("undo() of names()", x.undo(), 4);
        Check.due("undo() of request()", x.undo(), 3);
        Check.row("as it was ahead of both", seen(x), second);
        x.rule(0);
        Check.names(x, "b;b;c;c;d;");
        x.book(0, 2, 30);
        x.drawn(20, 1);
        for (int left = 5; left >= 1; left--) {
            Check.due("undo()", x.undo(), left);
        }
        Check.row("as it was ahead of all", seen(x), first);
    }

    private static void promise36Kinds() {
        TwoTierStore x = Check.made(FOUR);
        x.request(9);
        x.carry(9, 1);
        x.carry(0, 0);
        x.carry(0, 2);
        x.shift(0, 5);
        x.shift(99, 5);
        x.room(6);
        x.rule(1);
        x.drawn(0, 5);
        Check.names(x, "who;");
        x.book(0, 0, 1);
        Check.due("none of these can be undone", x.undo(), NONE);
        Check.due("the BOOK stays", x.booked(0, 5), 1);

        Check.names(x, "");
        Check.names(x, "a;");
        x.drawn(1, 5);
        x.carry(3, 1);
        x.shift(3, 40);
        x.room(5);
        x.rule(0);
        x.request(3);
        Check.row("rule", x.undo() + " " + x.undo() + " " + x.now(1) + " " + x.now(0), "7 6 1 5");
        Check.row("room", x.undo() + " " + x.now(0) + " " + x.now(3), "5 6 3");
        Check.row("shift", x.undo() + " " + x.now(3), "4 8");
        Check.row("carry", x.undo() + " " + x.now(3) + " " + x.now(6), "3 0 2");
        Check.row("drawn", x.undo() + " " + x.now(6), "2 1");
        Check.row("names", x.undo() + " " + x.now(6), "1 0");
        Check.row("names of none", x.undo() + " " + x.undo(), "0 -1");

        x.drawn(40, 1);
        x.drawn(3, 1);
        Check.names(x, "a;");
        Check.due("the LOG is full", x.request(0), -3);
        Check.row("done or not", x.undo() + " " + x.now(6) + " " + x.undo() + " " + x.now(6) + " " + x.undo() + " " + x.now(6), "2 40 1 40 0 0");
        Check.store(x, FOUR);
        x.request(0);
        Check.store(x, "room 0;");
        Check.due("a FAULT leaves it", x.undo(), 0);
        x.request(0);
        Check.store(x, FOUR);
        Check.due("store() can't be undone", x.undo(), NONE);
    }

    private static void promise36Eight() {
        TwoTierStore x = Check.made(FOUR);
        for (int i = 0; i < 11; i++) {
            x.request(3);
        }
        for (int left = 7; left >= 0; left--) {
            Check.due("undo()", x.undo(), left);
            Check.due("REQUESTS", x.now(6), 3 + left);
        }
        Check.due("8 at most", x.undo(), NONE);
        x.request(3);
        Check.due("one more", x.undo(), 0);
    }

    private static String seen(TwoTierStore x) {
        StringBuilder row = new StringBuilder();
        for (int what = 0; what < 10; what++) {
            row.append(what == 7 ? 0 : x.now(what)).append(' ');
        }
        for (int k = 0; k < x.now(2); k++) {
            for (int what = 0; what < 6; what++) {
                row.append(x.item(k, what)).append(' ');
            }
        }
        for (int i = 0; i < x.now(6); i++) {
            row.append(x.log(i, 0)).append(x.log(i, 1)).append(x.log(i, 2)).append(x.potential(i)).append(' ');
        }
        for (int k = 0; k < 3; k++) {
            row.append(Check.booked(x, k)).append(Check.lines(x, k)).append(' ');
        }
        return row.append(Check.picture(x)).toString();
    }

    private static void promises37and38() {
        TwoTierStore x = Check.made(FOUR);
        Check.due("image(-1)", x.image(-1), false);
        Check.due("image(2)", x.image(2), false);
        Check.due("restore(-1)", x.restore(-1), false);
        Check.due("restore(2)", x.restore(2), false);
        Check.due("nothing is kept there", x.restore(0), false);
        x.book(1, 0, 30);
        x.drawn(9, 4);
        String first = seen(x);
        Check.due("image(0)", x.image(0), true);
        Check.due("nothing is kept there", x.restore(1), false);
        Check.due("undo() behind image()", x.undo(), 0);

        Check.store(x, "room 9;rule heat;item zz 3 3 3;");
        x.carry(0, 1);
        x.rides(0, 9);
        x.book(2, 3, 4);
        String second = seen(x);
        Check.due("image(1)", x.image(1), true);
        Check.store(x, "room 0;");
        x.feed(1, 2, 3, 4, 5);
        x.carry(0, 0);
        x.carry(0, 0);
        x.carry(0, 1);

        Check.due("restore(0)", x.restore(0), true);
        Check.due("the tape stays", x.now(7), 20);
        Check.due("FAULT stays", x.fault(), 2);
        Check.row("what rides() told stays", Check.rides(x), "1");
        Check.row("GATES stay", Check.gates(x), "1234");
        Check.due("nothing can be undone", x.undo(), NONE);
        Check.row("as kept", seen(x), first);
        x.request(0);
        Check.due("restore(1)", x.restore(1), true);
        Check.row("as kept", seen(x), second);
        Check.due("restore(0)", x.restore(0), true);
        Check.row("as kept, once more", seen(x), first);
        x.request(1);
        x.carry(3, 1);
        x.book(0, 1, 2);
        x.drawn(6, 9);
        x.image(1);
        String third = seen(x);
        x.book(0, 0, 30);
        x.book(1, 2, 8);
        x.room(9);
        x.drawn(30, 8);
        x.request(1);
        Check.due("restore(1)", x.restore(1), true);
        Check.row("the latest that was kept", seen(x), third);
        Check.due("a new object keeps none", new TwoTierStore().restore(0), false);
    }
}
