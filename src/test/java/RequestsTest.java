/** Promises 6 to 8, 10 to 17 and 27 to 29: requests, carrying, gates, books, what is spent, the picture. */
public final class RequestsTest {
    private static final int NONE = TwoTierStore.NONE;
    /** DENSITIES when full: a 180, b 60, c 60; d is too big. */
    private static final String ONCE = "room 4;rule once;item a 2 6 1;item bo 2 2 1;item c 4 4 2;item d 5 9 3;";
    private static final String RENT = "room 4;item a 2 6 3;item bo 2 2 1;item c 4 4 2;item d 5 9 3;";
    private static final String HEAT = "room 4;rule heat;item a 2 6 3;item bo 2 15 2;item c 4 4 2;";

    public static void main(String[] args) {
        promise6();
        promise7();
        promise8Once();
        promise8Rent();
        promise8Heat();
        promise8Credit();
        promise8Edges();
        promise10();
        promise11();
        promise12();
        promise13();
        promise14();
        promise15();
        promise16();
        promise17();
        promise27();
        promise28and29();
        Check.finish();
    }

    private static String all(TwoTierStore x) {
        StringBuilder row = new StringBuilder();
        for (int what = 0; what < 10; what++) {
            row.append(what == 0 ? "" : " ").append(x.now(what));
        }
        return row.toString();
    }

    private static String items(TwoTierStore x, int what) {
        StringBuilder row = new StringBuilder();
        for (int k = 0; k < x.now(2); k++) {
            row.append(k == 0 ? "" : " ").append(x.item(k, what));
        }
        return row.toString();
    }

    private static void promise6() {
        TwoTierStore x = Check.made(ONCE);
        Check.row("now", all(x), "4 0 4 0 4 0 0 0 0 0");
        x.request(0);
        x.request(1);
        Check.row("now", all(x), "4 0 4 3 0 8 2 0 0 2");
        x.request(2);
        Check.row("now", all(x), "4 0 4 4 0 12 3 0 2 3");
        x.carry(2, 0);
        x.carry(1, 1);
        x.shift(1, 4);
        x.feed(1, 2, 3, 4, 5);
        Check.row("now, by hand and by rides too", all(x), "4 0 4 1 2 20 3 20 4 5");
        Check.due("now(10)", x.now(10), NONE);
        Check.due("now(-1)", x.now(-1), NONE);
        Check.due("now(most)", x.now(Integer.MAX_VALUE), NONE);
    }

    private static void promise7() {
        TwoTierStore x = Check.made(RENT);
        x.request(0);
        Check.row("SIZES", items(x, 0), "2 2 4 5");
        Check.row("PRICES", items(x, 1), "6 2 4 9");
        Check.row("RENTS", items(x, 2), "3 1 2 3");
        Check.row("DENSITIES", items(x, 3), "0 0 0 0");
        Check.row("COUNTERS", items(x, 4), "3 0 0 0");
        x.request(0);
        Check.row("DENSITIES", items(x, 3), "180 0 0 0");
        Check.row("COUNTERS", items(x, 4), "0 0 0 0");
        Check.due("HEAT", x.item(0, 5), Float.floatToIntBits(1.875f));
        x.request(1);
        Check.due("HEAT that fades", x.item(0, 5), Float.floatToIntBits(1.875f * 0.875f));
        Check.due("HEAT of the one asked for", x.item(1, 5), Float.floatToIntBits(1f));
        Check.due("HEAT of another", x.item(2, 5), 0);
        Check.due("no such ITEM", x.item(4, 0), NONE);
        Check.due("no such ITEM", x.item(-1, 0), NONE);
        Check.due("no such what", x.item(0, 6), NONE);
        Check.due("no such what", x.item(0, -1), NONE);
        float heat = 0f;
        TwoTierStore y = Check.made(RENT);
        for (int i = 0; i < 40; i++) {
            y.request(i % 7 == 0 ? 0 : 3);
            heat = heat * 0.875f + (i % 7 == 0 ? 1f : 0f);
            Check.due("HEAT at " + i, y.item(0, 5), Float.floatToIntBits(heat));
        }
    }

    private static void promise8Once() {
        TwoTierStore x = Check.made(ONCE);
        Check.due("request(0)", x.request(0), 6);
        Check.due("request(1)", x.request(1), 2);
        Check.due("a HIT", x.request(0), 0);
        Check.due("request(2) makes both go", x.request(2), 4);
        Check.due("FAST", x.now(3), 4);
        Check.due("too big: RENT", x.request(3), 3);
        Check.due("COUNTERS are not counted by once", x.item(3, 4), 0);
    }

    private static void promise8Rent() {
        TwoTierStore x = Check.made(RENT);
        Check.due("RENT", x.request(0), 3);
        Check.due("RENT that makes it go UP", x.request(0), 9);
        Check.due("a HIT", x.request(0), 0);
        Check.due("too big", x.request(3), 3);
        Check.due("the COUNTER of what is too big", x.item(3, 4), 0);
        for (int i = 0; i < 9; i++) {
            Check.due("too big, ever again", x.request(3), 3);
        }
        Check.due("RENT of c", x.request(2), 2);
        Check.due("c goes UP, a DOWN", x.request(2), 6);
        Check.due("FAST", x.now(3), 4);
        Check.due("the COUNTER of a begins at 0 again", x.request(0), 3);
    }

    private static void promise8Heat() {
        TwoTierStore x = Check.made(HEAT);
        Check.due("3 is below 6", x.request(0), 3);
        Check.due("1.875 by 3 is below 6", x.request(0), 3);
        Check.due("2.640625 by 3", x.request(0), 9);
        // HEAT behind n REQUESTS for bo alone is 8 less 8 by 0.875 n times: 7.5 or more from the 21st on
        for (int i = 1; i <= 20; i++) {
            Check.due("bo for the time " + i, x.request(1), 2);
        }
        Check.due("bo for the time 21", x.request(1), 17);
        TwoTierStore y = Check.made("room 4;rule heat;item a 2 1 1;");
        Check.due("HEAT by RENT that is just PRICE", y.request(0), 2);
        TwoTierStore z = Check.made("item a 2 9 1;item bo 2 3 2;rule rent;");
        z.request(1);
        Check.due("HEAT is counted by another RULE too", z.item(1, 5), Float.floatToIntBits(1f));
    }

    private static void promise8Credit() {
        // DENSITIES when full: a 60, b 120, c 180.
        TwoTierStore x = Check.made("room 6;rule once;item a 2 2 1;item b 2 4 1;item c 2 6 1;item d 2 8 1;item e 6 1 1;");
        Check.names(x, "a;b;c;");
        Check.row("full", items(x, 3), "60 120 180 0 0");
        x.request(3);
        Check.row("a sank to 0 and went", items(x, 3), "0 60 120 240 0");
        x.request(1);
        Check.row("b is full again", items(x, 3), "0 120 120 240 0");
        Check.due("b is the first of two like ones", x.victims(0), 2);
        x.request(0);
        Check.row("c stays, without CREDIT", items(x, 3), "60 0 0 120 0");
        Check.due("what is without CREDIT goes at once", x.victims(1), 4);
        x.request(1);
        Check.row("none sank", items(x, 3), "60 120 0 120 0");
        Check.due("FAST", x.now(3), 11);
        x.request(4);
        Check.row("all go", items(x, 3), "0 0 0 0 10");
        TwoTierStore y = Check.made("room 7;item a 1 1 1;item b 1 2 2;item c 1 3 3;item d 1 4 4;item e 1 5 5;item f 1 6 6;item g 1 7 7;item h 6 8 8;");
        Check.names(y, "a;b;c;d;e;f;g;");
        y.carry(0, 0);
        y.carry(1, 0);
        y.carry(1, 1);
        y.carry(0, 1);
        y.book(0, 0, 30);
        Check.due("six make way", y.request(7), 16);
        Check.row("ENTRIES", Check.lines(y, 0), "1,7,8 2,0,1 2,1,1 2,2,1 2,3,1 2,4,1 2,5,1 3,7,8");
        Check.row("GATES", Check.gates(y), "1234".repeat(7));
    }

    private static void promise8Edges() {
        TwoTierStore x = Check.made(RENT);
        Check.due("no such ITEM", x.request(4), -2);
        Check.due("no such ITEM", x.request(-1), -2);
        for (int i = 0; i < 40; i++) {
            Check.due("request " + i, x.request(3), 3);
        }
        int heat = x.item(3, 5);
        Check.due("the LOG is full", x.request(3), -3);
        Check.due("no such ITEM, the LOG is full", x.request(9), -2);
        Check.due("HEAT stays", x.item(3, 5), heat);
        Check.due("PAID stays", x.now(5), 120);
    }

    private static void promise10() {
        TwoTierStore x = Check.made(ONCE);
        Check.names(x, "a;bo;c;d;");
        int[][] due = {{0, 6, 1}, {1, 2, 3}, {2, 4, 4}, {3, 3, 4}};
        for (int i = 0; i < 4; i++) {
            for (int what = 0; what < 3; what++) {
                Check.due("log(" + i + ", " + what + ")", x.log(i, what), due[i][what]);
            }
        }
        Check.due("log(4, 0)", x.log(4, 0), NONE);
        Check.due("log(-1, 0)", x.log(-1, 0), NONE);
        Check.due("log(0, 3)", x.log(0, 3), NONE);
        Check.due("log(0, -1)", x.log(0, -1), NONE);
        x.carry(2, 0);
        Check.due("carry() is not in the LOG", x.log(4, 0), NONE);
        Check.due("what was FAST stays told", x.log(3, 2), 4);
    }

    private static void promise11() {
        TwoTierStore x = Check.made(RENT);
        Check.names(x, "a;a;bo;bo;c;");
        x.book(0, 0, 9);
        String gates = Check.gates(x);
        Check.due("room(0)", x.room(0), NONE);
        Check.due("room(21)", x.room(21), NONE);
        Check.due("room(4): it is so", x.room(4), NONE);
        Check.due("REQUESTS stay", x.now(6), 5);
        Check.due("room(20)", x.room(20), 2);
        Check.row("now", all(x), "20 1 4 0 20 18 0 0 0 2");
        Check.row("COUNTERS", items(x, 4), "0 0 0 0");
        Check.row("HEAT", items(x, 5), "0 0 0 0");
        Check.row("DENSITIES", items(x, 3), "0 0 0 0");
        Check.row("no ENTRIES", Check.booked(x, 0), "0 0 0 0 0 9");
        Check.row("no GATES", Check.gates(x), gates);
        Check.due("room(1)", x.room(1), 0);
        Check.due("all is too big for it", x.request(0) + x.request(0) + x.request(0), 9);
    }

    private static void promise12() {
        TwoTierStore x = Check.made(RENT);
        Check.names(x, "a;a;c;");
        Check.due("rule(-1)", x.rule(-1), NONE);
        Check.due("rule(3)", x.rule(3), NONE);
        Check.due("rule(1): it is so", x.rule(1), NONE);
        Check.due("REQUESTS stay", x.now(6), 3);
        Check.due("rule(0)", x.rule(0), 1);
        Check.row("now", all(x), "4 0 4 0 4 14 0 0 0 1");
        Check.row("COUNTERS", items(x, 4), "0 0 0 0");
        Check.row("HEAT", items(x, 5), "0 0 0 0");
        Check.due("by once", x.request(2), 4);
        Check.due("rule(2)", x.rule(2), 1);
        Check.due("by heat", x.request(0), 3);
    }

    private static void promise13() {
        TwoTierStore x = Check.made(RENT);
        x.request(0);
        Check.due("UP", x.carry(0, 1), 0);
        Check.row("now", all(x), "4 1 4 1 2 9 1 0 0 1");
        Check.due("full DENSITY", x.item(0, 3), 180);
        Check.due("COUNTER", x.item(0, 4), 0);
        Check.due("it is there", x.carry(0, 1), 1);
        Check.due("too little room", x.carry(2, 1), 2);
        Check.due("too big", x.carry(3, 1), 2);
        Check.due("it is there", x.carry(2, 0), 1);
        Check.due("just enough room", x.carry(1, 1), 0);
        Check.due("DOWN", x.carry(0, 0), 0);
        Check.row("now", all(x), "4 1 4 2 2 11 1 0 1 2");
        Check.due("no DENSITY", x.item(0, 3), 0);
        Check.due("no such ITEM", x.carry(4, 1), -2);
        Check.due("no such ITEM", x.carry(-1, 0), -2);
        Check.due("no such up", x.carry(0, 2), -2);
        Check.due("no such up", x.carry(0, -1), -2);
        Check.due("PAID in the LOG", x.log(0, 1), 3);
    }

    private static void promise14() {
        TwoTierStore x = Check.made(ONCE);
        Check.due("gate(0) ahead of any", x.gate(0), NONE);
        Check.names(x, "a;bo;");
        Check.row("both UP", Check.gates(x), "12341234");
        Check.store(x, ONCE);
        x.carry(2, 0);
        Check.names(x, "a;bo;");
        Check.row("those of names() alone", Check.gates(x), "12341234");
        x.rule(1);
        x.rule(0);
        x.carry(2, 0);
        x.drawn(1, 1);
        Check.row("those of drawn() alone", Check.gates(x), "1234");
        Check.store(x, ONCE);
        Check.names(x, "a;bo;");
        x.request(0);
        x.request(3);
        x.carry(9, 1);
        x.shift(3, 9);
        x.victims(2);
        x.curve(2, 0);
        Check.row("these open none", Check.gates(x), "12341234");
        x.request(2);
        Check.row("two DOWN, one UP", Check.gates(x), "123412341234");
        x.undo();
        Check.row("undo() opens none", Check.gates(x), "123412341234");
        x.carry(0, 1);
        Check.row("carry() of 1", Check.gates(x), "1234");
        x.shift(0, 2);
        Check.row("shift", Check.gates(x), "12341234");
        x.carry(3, 1);
        Check.row("carry() of 2", Check.gates(x), "1234");
        Check.due("gate(-1)", x.gate(-1), NONE);
        Check.due("gate(4)", x.gate(4), NONE);
        x.rule(1);
        x.rule(0);
        Check.names(x, "again 9 [a; c;];");
        Check.row("60 at most", Check.gates(x), "1234".repeat(15));
        Check.due("gate(60)", x.gate(60), NONE);
        Check.due("gate(59)", x.gate(59), 4);
        Check.store(x, "");
        Check.due("store() opens none", x.gate(59), 4);
    }

    private static void promise15() {
        TwoTierStore x = Check.made(ONCE);
        Check.due("book(2, 3, 30)", x.book(2, 3, 30), 0);
        Check.due("book(0, 0, 0)", x.book(0, 0, 0), 0);
        int[][] bad = {{-1, 0, 1}, {3, 0, 1}, {0, -1, 1}, {0, 4, 1}, {0, 0, -1}, {0, 0, 31}};
        for (int[] b : bad) {
            Check.due("book(" + b[0] + ", " + b[1] + ", " + b[2] + ")", x.book(b[0], b[1], b[2]), NONE);
        }
        x.request(0);
        x.book(2, 7, 1);
        Check.row("it stays", Check.booked(x, 2), "1 0 0 6 3 30");
        x.book(2, 2, 1);
        x.request(1);
        x.request(1);
        x.request(2);
        Check.row("full", Check.booked(x, 2), "1 0 4 2 2 1");
        x.book(2, 2, 5);
        Check.row("opened anew", Check.booked(x, 2), "0 0 0 0 2 5");
        Check.due("opened anew", x.line(2, 0, 0), NONE);
    }

    private static void promise16() {
        TwoTierStore x = Check.made(RENT);
        Check.due("not opened", x.booked(1, 4), NONE);
        x.book(0, 0, 30);
        x.book(1, 1, 30);
        x.book(2, 2, 30);
        Check.names(x, "a;a;a;c;c;");
        // RENT a 3, RENT a 3, UP a 6, HIT a, RENT c 2, RENT c 2, DOWN a 2, UP c 4
        Check.row("all", Check.booked(x, 0), "8 0 0 22 0 30");
        Check.row("those that serve", Check.booked(x, 1), "5 3 0 10 1 30");
        Check.row("moves", Check.booked(x, 2), "3 5 0 12 2 30");
        x.book(0, 3, 2);
        x.book(1, 1, 2);
        x.book(2, 0, 0);
        x.carry(2, 0);
        x.carry(0, 1);
        x.carry(1, 1);
        x.carry(1, 0);
        x.request(0);
        // DOWN c 4, UP a 6, UP bo 2, DOWN bo 2, HIT a
        Check.row("UP alone; then full", Check.booked(x, 0), "2 1 2 8 3 2");
        Check.row("those that serve", Check.booked(x, 1), "1 4 0 0 1 2");
        Check.row("without lines", Check.booked(x, 2), "0 0 5 0 0 0");
        Check.due("booked(3, 0)", x.booked(3, 0), NONE);
        Check.due("booked(-1, 0)", x.booked(-1, 0), NONE);
        Check.due("booked(0, 6)", x.booked(0, 6), NONE);
        Check.due("booked(0, -1)", x.booked(0, -1), NONE);
    }

    private static void promise17() {
        TwoTierStore x = Check.made(RENT);
        x.book(0, 0, 30);
        x.book(1, 1, 3);
        x.book(2, 2, 30);
        Check.names(x, "a;a;a;c;c;");
        Check.row("all", Check.lines(x, 0), "1,0,3 1,0,3 3,0,6 0,0,0 1,2,2 1,2,2 2,0,2 3,2,4");
        Check.row("those that serve", Check.lines(x, 1), "1,0,3 1,0,3 0,0,0");
        Check.row("moves", Check.lines(x, 2), "3,0,6 2,0,2 3,2,4");
        Check.due("line(0, 8, 0)", x.line(0, 8, 0), NONE);
        Check.due("line(0, -1, 0)", x.line(0, -1, 0), NONE);
        Check.due("line(0, 0, 3)", x.line(0, 0, 3), NONE);
        Check.due("line(0, 0, -1)", x.line(0, 0, -1), NONE);
        Check.due("line(3, 0, 0)", x.line(3, 0, 0), NONE);
        Check.due("line(-1, 0, 0)", x.line(-1, 0, 0), NONE);
        TwoTierStore y = Check.made(ONCE);
        y.book(0, 2, 9);
        Check.names(y, "a;bo;c;");
        Check.row("DOWN ahead of UP", Check.lines(y, 0), "3,0,6 3,1,2 2,1,2 2,0,2 3,2,4");
    }

    private static void promise27() {
        TwoTierStore x = Check.made(RENT);
        Check.due("no REQUESTS", x.spent(0, 0), 0);
        Check.names(x, "a;a;a;c;c;a;");
        Check.row("a", x.spent(0, 0) + " " + x.spent(0, 1) + " " + x.spent(0, 2), "4 1 15");
        Check.row("bo", x.spent(1, 0) + " " + x.spent(1, 1) + " " + x.spent(1, 2), "0 0 0");
        Check.row("c", x.spent(2, 0) + " " + x.spent(2, 1) + " " + x.spent(2, 2), "2 0 8");
        Check.due("spent(4, 0)", x.spent(4, 0), NONE);
        Check.due("spent(-1, 0)", x.spent(-1, 0), NONE);
        Check.due("spent(0, 3)", x.spent(0, 3), NONE);
        Check.due("spent(0, -1)", x.spent(0, -1), NONE);
    }

    private static void promise28and29() {
        TwoTierStore x = Check.made(RENT);
        Check.due("byteAt(0) ahead of any", x.byteAt(0), NONE);
        Check.row("empty", Check.picture(x), "....");
        x.carry(1, 1);
        Check.row("not drawn anew", "" + (char) x.byteAt(0), ".");
        Check.row("bo", Check.picture(x), "bb..");
        x.carry(0, 1);
        Check.row("by numbers", Check.picture(x), "aabb");
        Check.due("byteAt(3)", x.byteAt(3), 'b');
        Check.due("byteAt(4)", x.byteAt(4), NONE);
        Check.due("byteAt(-1)", x.byteAt(-1), NONE);
        x.room(20);
        Check.due("the latest picture stays", x.byteAt(4), NONE);
        Check.due("picture()", x.picture(), 20);
        Check.due("byteAt(19)", x.byteAt(19), '.');
        Check.store(x, "");
        Check.due("store() draws none", x.byteAt(19), '.');
        Check.row("a name of one other letter", picture("item zebra 6 1 1;item yak 1 1 1;room 9;"), "zzzzzzy..");
    }

    private static String picture(String text) {
        TwoTierStore x = Check.made(text);
        x.carry(0, 1);
        x.carry(1, 1);
        return Check.picture(x);
    }
}
