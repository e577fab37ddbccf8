/** The boundaries of "Terms" 1 and of promises 1 to 5 and 9: the tape, a STORE and REQUESTS as texts, FAULTS. */
final class BoundsOfTexts {
    private static final int NONE = TwoTierStore.NONE;
    private static final String[] LETTERS = {"a", "b", "c", "d", "e", "f", "g", "h"};
    private static final String EIGHT = items(8);
    private static final String TWO = "item a 1 60 1;item bb 1 60 2;";

    private BoundsOfTexts() {
    }

    static void all() {
        callsUpTo512();
        storeText();
        words();
        faults();
        newObject();
        tape();
        storing();
        faultKinds();
        steps();
        stepFaults();
    }

    private static String items(int n) {
        StringBuilder all = new StringBuilder();
        for (int k = 0; k < n; k++) {
            all.append("item ").append(LETTERS[k]).append(" 1 ").append(k + 1).append(" 1;");
        }
        return all.toString();
    }

    private static String blanks(int n) {
        return " ".repeat(n);
    }

    private static TwoTierStore good(String text, int items) {
        TwoTierStore x = new TwoTierStore();
        Check.due("store of \"" + text + "\"", Check.store(x, text), items);
        Check.due("fault() of \"" + text + "\"", x.fault(), 0);
        return x;
    }

    private static void bad(String text, int place, int kind) {
        TwoTierStore x = new TwoTierStore();
        Check.due("store of \"" + text + "\"", Check.store(x, text), -1000 - place);
        Check.due("fault() of \"" + text + "\"", x.fault(), kind);
    }

    private static void cut(String text, int n, int due, int kind) {
        TwoTierStore x = new TwoTierStore();
        Check.tape(x, text);
        x.end(n);
        Check.due("store of \"" + text + "\" up to " + n, x.store(), due);
        Check.due("fault() of \"" + text + "\" up to " + n, x.fault(), kind);
    }

    private static void asks(String text, String asked) {
        TwoTierStore x = Check.made(TWO);
        int paid = Check.names(x, text);
        StringBuilder log = new StringBuilder();
        int sum = 0;
        for (int i = 0; i < x.now(6); i++) {
            log.append(x.log(i, 0));
            sum += 1 + x.log(i, 0);
        }
        Check.row("LOG of \"" + text + "\"", log.toString(), asked);
        Check.due("PAID of \"" + text + "\"", paid, sum);
        Check.due("fault() of \"" + text + "\"", x.fault(), 0);
    }

    private static void badSteps(String text, int place, int kind) {
        TwoTierStore x = Check.made(TWO);
        Check.due("names of \"" + text + "\"", Check.names(x, text), -1000 - place);
        Check.due("fault() of \"" + text + "\"", x.fault(), kind);
    }

    // ---- what it is ----

    private static void callsUpTo512() {
        Sentences.test("What it is", "An object is used for at most 512 calls after it has been made; what later calls answer is free.");
        TwoTierStore x = new TwoTierStore();
        x.feed(0x6974656d, 0x20612031, 0x20363020, 0x31203b20, 0x20202020);
        x.end(15);
        x.store();
        for (int call = 4; call <= 511; call++) {
            x.request(call < 42 ? 0 : 9);
        }
        Check.due("call 512", x.request(0), 1);
        for (int call = 513; call < 600; call++) {
            x.request(0);
        }
    }

    // ---- Terms 1 ----

    private static void storeText() {
        Sentences.test("Terms 1", "A STORE is a text of at most 400 bytes: { LINE ; }.");
        good("", 0);
        good(blanks(400), 0);
        Check.due("ROOM by a text of just 400", good(blanks(393) + "room 7;", 0).now(0), 7);
        bad(blanks(394) + "room 7;", 400, 1);
        good("item a 1 1 1;" + blanks(387), 1);
        bad("item a 1 1 1;" + blanks(388), 400, 1);
        bad("room 7", 6, 1);
        bad("room 7;;", 7, 1);

        Sentences.test("Terms 1", "LINE: 'room' N (1 to 20; 6 without)");
        bad("room 0;", 5, 2);
        Check.due("room 1", good("room 1;", 0).now(0), 1);
        Check.due("room 20", good("room 20;", 0).now(0), 20);
        bad("room 21;", 5, 2);
        bad("room 99;", 5, 2);
        TwoTierStore x = good("room 20;", 0);
        Check.store(x, "rule rent;");
        Check.due("without", x.now(0), 6);

        Sentences.test("Terms 1", "'rule' R (at once, rent, heat: 'once', 'rent', 'heat'; rent without)");
        Check.due("once", good("rule once;", 0).now(1), 0);
        Check.due("rent", good("rule rent;", 0).now(1), 1);
        Check.due("heat", good("rule heat;", 0).now(1), 2);
        bad("rule onc;", 5, 1);
        bad("rule oncee;", 5, 1);
        bad("rule at;", 5, 1);
        bad("rule 0;", 5, 1);
        TwoTierStore y = good("rule heat;", 0);
        Check.store(y, "room 6;");
        Check.due("without", y.now(1), 1);
        numbersOfItems();
    }

    private static void numbersOfItems() {
        Sentences.test("Terms 1", "(SIZE 1 to 6,");
        bad("item a 0 1 1;", 7, 2);
        Check.due("SIZE 1", good("item a 1 1 1;", 1).item(0, 0), 1);
        Check.due("SIZE 6", good("item a 6 1 1;", 1).item(0, 0), 6);
        bad("item a 7 1 1;", 7, 2);

        Sentences.test("Terms 1", "PRICE 1 to 60,");
        bad("item a 1 0 1;", 9, 2);
        Check.due("PRICE 1", good("item a 1 1 1;", 1).item(0, 1), 1);
        Check.due("PRICE 60", good("item a 1 60 1;", 1).item(0, 1), 60);
        bad("item a 1 61 1;", 9, 2);

        Sentences.test("Terms 1", "RENT 1 to 20;");
        bad("item a 1 1 0;", 11, 2);
        Check.due("RENT 1", good("item a 1 1 1;", 1).item(0, 2), 1);
        Check.due("RENT 20", good("item a 1 1 20;", 1).item(0, 2), 20);
        bad("item a 1 1 21;", 11, 2);

        Sentences.test("Terms 1", "8 ITEMS at most, numbered from 0).");
        TwoTierStore x = good(EIGHT, 8);
        Check.due("PRICE of ITEM 0", x.item(0, 1), 1);
        Check.due("PRICE of ITEM 7", x.item(7, 1), 8);
        Check.due("ITEM 8", x.item(8, 1), NONE);
        bad(EIGHT + "item i 1 1 1;", 104, 4);
        Check.due("room, rule behind eight", good(EIGHT + "room 9;rule once;", 8).now(0), 9);

        Sentences.test("Terms 1", "'item' NAME SIZE PRICE RENT");
        good("item a 6 60 20;", 1);
        bad("item a 6 60;", 11, 1);
        bad("item a 6 60 20 1;", 15, 1);
        bad("item 6 60 20;", 5, 1);
    }

    private static void words() {
        Sentences.test("Terms 1", "NAME: a word, told once;");
        good("item a 1 1 1;item b 1 1 1;", 2);
        bad("item a 1 1 1;item a 1 1 1;", 18, 3);
        good("item a 1 1 1;item aa 1 1 1;item ab 1 1 1;item ba 1 1 1;item aaaaaa 1 1 1;item aaaaab 1 1 1;item baaaaa 1 1 1;", 7);
        bad("item zzzzzz 1 1 1;item zzzzzy 1 1 1;item zzzzzz 1 1 1;", 41, 3);
        for (int letter = 'b'; letter <= 'z'; letter++) {
            good("item aaaaaa 1 1 1;item aaaaa" + (char) letter + " 1 1 1;item " + (char) letter + "aaaaa 1 1 1;", 3);
        }

        Sentences.test("Terms 1", "a word: small letters, 1 to 6, none of 'room', 'rule', 'item', 'again'.");
        good("item a 1 1 1;item z 1 1 1;item azazaz 1 1 1;", 3);
        bad("item azazaza 1 1 1;", 5, 1);
        bad("item  1 1 1;", 6, 1);
        for (String reserved : new String[] {"room", "rule", "item", "again"}) {
            bad("item " + reserved + " 1 1 1;", 5, 1);
            good("item " + reserved + "s 1 1 1;item " + reserved.substring(1) + " 1 1 1;item " + reserved.substring(0, 3) + " 1 1 1;", 3);
        }
        good("item once 1 1 1;item rent 1 1 1;item heat 1 1 1;", 3);
        for (char sign : new char[] {'`', '{', '@', '/', ':', (char) 0, (char) 127, (char) 128, (char) 225, (char) 255}) {
            bad("item " + sign + " 1 1 1;", 5, 1);
            bad("item a" + sign + " 1 1 1;", 6, 1);
        }
        bad("item A 1 1 1;", 5, 1);
        bad("item Z 1 1 1;", 5, 1);

        Sentences.test("Terms 1", "room, rule: once each.");
        good("room 7;rule heat;", 0);
        bad("room 7;rule heat;room 7;", 17, 3);
        bad("room 7;rule heat;rule heat;", 17, 3);
        TwoTierStore again = good("room 7;rule heat;", 0);
        Check.row("once in each STORE", Check.store(again, "room 7;rule heat;") + " " + Check.store(again, "rule heat;room 7;"), "0 0");

        Sentences.test("Terms 1", "Numbers: digits, 1 or 2;");
        Check.due("one", good("room 7;", 0).now(0), 7);
        Check.due("two", good("room 07;", 0).now(0), 7);
        bad("room 007;", 5, 1);
        bad("room ;", 5, 1);
        Check.due("0 to 9", good("room 10;item a 2 34 5;item b 6 07 8;item c 1 9 1;", 3).item(0, 1), 34);
        bad("room /;", 5, 1);
        bad("room :;", 5, 1);
        bad("room 1:", 6, 1);
        bad("room -1;", 5, 1);
        bad("room 4294967297;", 5, 1);

        Sentences.test("Terms 1", "blanks (32) may stand between all");
        TwoTierStore x = good("  room  9  ;  rule  heat  ;  item  a  2  3  4  ;  ", 1);
        Check.row("as without them", x.now(0) + " " + x.now(1) + " " + x.item(0, 0) + " " + x.item(0, 1) + " " + x.item(0, 2), "9 2 2 3 4");
        good("room 9;rule heat;item a 2 3 4;", 1);
        for (char sign : new char[] {0, 9, 10, 13, 31, 33, 160}) {
            bad("room" + sign + "9;", 4, 1);
            bad(sign + "room 9;", 0, 1);
            bad("room 9;" + sign, 7, 1);
        }

        Sentences.test("Terms 1", "(a word, a number goes on as long as letters and digits do).");
        bad("room7;", 0, 1);
        bad("room 7a;", 5, 1);
        bad("item a7 1 1 1;", 5, 1);
        bad("item 7a 1 1 1;", 5, 1);
        bad("item a1 1 1;", 5, 1);
        bad("item a 1 11;", 11, 1);
        bad("itema 1 1 1;", 0, 1);
        asks("again 2[a;];", "00");
        badSteps("again2[a;];", 0, 1);
    }

    private static void faults() {
        Sentences.test("Terms 1", "FAULTS, the first along the text,");
        bad("room 0;item # 0 0 0;", 5, 2);
        bad("rule once;rule #;", 10, 3);
        bad("item a 1 1 1;item a 7 61 21", 18, 3);
        bad("item a 7 61 21", 7, 2);
        bad("item a 6 61 21", 9, 2);
        bad("item a 6 60 21", 12, 2);
        bad("item a 6 60 20", 14, 1);
        bad(EIGHT + "item a 7 7", 104, 4);

        Sentences.test("Terms 1", "of one TOKEN the least:");
        bad("room 100;", 5, 1);
        bad("rule 99;", 5, 1);
        bad("item 99 1 1 1;", 5, 1);
        bad("room 5 99;", 7, 1);
        bad("room 5 room 5;", 7, 1);
        bad("rule once rule once;", 10, 1);
        bad("item a 1 1 1;item b a 1 1 1;", 20, 1);
        bad(EIGHT.substring(0, 103) + " item i 1 1 1;", 104, 1);
        badSteps("a who;", 2, 1);
        badSteps("again 100[a;];", 6, 1);
        badSteps("a 10;", 2, 1);
        badSteps("again 2[again 2[a again 2[a;];];];", 18, 1);

        Sentences.test("Terms 1", "1 what is no word, number, sign ; [ ] or can't stand there (at it;");
        for (String first : new String[] {"#", ";", "[", "]", "7", "x", "again", "once", "seventy", "7x"}) {
            bad(first, 0, 1);
            bad("  room 7 ; " + first, 11, 1);
        }
        for (String near : new String[] {"xoom 7;", "roox 7;", "xule once;", "rulx once;", "xtem a 1 1 1;", "itex a 1 1 1;", "roo 7;", "rooms 7;"}) {
            bad(near, 0, 1);
        }
        for (String near : new String[] {"xnce", "oncx", "xent", "renx", "xeat", "heax"}) {
            bad("rule " + near + ";", 5, 1);
        }
        for (String next : new String[] {"#", "[", "]", "7", "x", "room"}) {
            bad("room 7 " + next, 7, 1);
        }
        for (char sign : new char[] {':', '<', 'Z', '\\', '^'}) {
            bad("room 7" + sign, 6, 1);
            badSteps("again 2" + sign, 7, 1);
            badSteps("again 2[a;" + sign, 10, 1);
        }

        Sentences.test("Terms 1", "the end: how many bytes there are;");
        bad("room", 4, 1);
        bad("room ", 5, 1);
        bad("room 7", 6, 1);
        bad("room 7   ", 9, 1);
        bad("item", 4, 1);
        bad("item a", 6, 1);
        bad("item a 1", 8, 1);
        bad("item a 1 1", 10, 1);
        bad("item a 1 1 1", 12, 1);
        bad("rule", 4, 1);
        bad("room 7" + blanks(394), 400, 1);
        // what end() cut off does not count, whatever stood there
        cut("room 7;", 0, 0, 0);
        cut("room 7;", 4, -1004, 1);
        cut("room 7;", 5, -1005, 1);
        cut("room 7;", 6, -1006, 1);
        cut("room 7;", 7, 0, 0);
        cut("room 12;", 6, -1006, 1);
        cut("room 7      ;", 6, -1006, 1);
        cut("room 7      ;", 9, -1009, 1);
        cut("rooms", 4, -1004, 1);
        cut("room 7;x", 7, 0, 0);
        cut("room 7;   x", 9, 0, 0);

        Sentences.test("Terms 1", "400, if there are more, and nothing is read);");
        bad("#".repeat(400), 0, 1);
        bad("#".repeat(401), 400, 1);
        bad("room 7;" + blanks(394), 400, 1);
        bad("room 0;" + blanks(433), 400, 1);
        TwoTierStore x = good("room 7;", 0);
        Check.store(x, "room 9;" + blanks(394));
        Check.due("nothing is read", x.now(0), 7);
        Check.due("the tape is empty", x.now(7), 0);

        Sentences.test("Terms 1", "2 a number that is not as told (at it);");
        bad("room   21;", 7, 2);
        bad("room   00 ;", 7, 2);
        bad("item a  7 1 1;", 8, 2);
        bad("item a 6  61 1;", 10, 2);
        bad("item a 6 60  21;", 13, 2);
        good("room   20;item a  6  60  20;", 1);

        Sentences.test("Terms 1", "3 a NAME told twice, room, rule told twice (at the word);");
        bad("item a 1 1 1;item   a 1 1 1;", 20, 3);
        bad("item a 1 1 1;item b 1 1 1;item b", 31, 3);
        bad("room 7; room 7;", 8, 3);
        bad("room 7;rule once;room", 17, 3);
        bad("rule once; rule once;", 11, 3);

        Sentences.test("Terms 1", "4 a ninth ITEM (at 'item').");
        bad(EIGHT + " item i 1 1 1;", 105, 4);
        bad(EIGHT + "item", 104, 4);
        good(EIGHT + " ", 8);
    }

    // ---- promises 1 to 5 ----

    private static void newObject() {
        Sentences.test("Promise 1", "ROOM 6, RULE rent, no ITEMS;");
        TwoTierStore x = new TwoTierStore();
        Check.row("now", x.now(0) + " " + x.now(1) + " " + x.now(2) + " " + x.now(3) + " " + x.now(4) + " " + x.now(5) + " " + x.now(6), "6 1 0 0 6 0 0");
        Check.due("ITEM 0", x.item(0, 0), NONE);
        Check.row("all that asks for ITEM 0", x.request(0) + " " + x.carry(0, 1) + " " + x.soon(0) + " " + x.victims(0) + " " + x.spent(0, 0)
            + " " + x.bestWith(0) + " " + x.drawn(1, 1) + " " + x.rides(1, 1) + " " + x.shift(1, 1), "-2 -2 -1 -1 -1 -1 -1 -1 -1");
        Check.row("the empty set", x.rides(0, 1) + " " + x.shift(0, 1), "0 0");
        Check.row("REQUESTS of none", Check.names(x, "") + " " + Check.names(x, "a;") + " " + x.fault(), "0 -1000 3");

        Sentences.test("Promise 1", "no BOOKS;");
        for (int k = 0; k < 3; k++) {
            Check.row("BOOK " + k, Check.booked(x, k) + Check.lines(x, k), "-1 -1 -1 -1 -1 -1");
        }

        Sentences.test("Promise 1", "an empty tape.");
        TwoTierStore y = new TwoTierStore();
        Check.due("bytes", y.now(7), 0);
        Check.due("end(1)", y.end(1), false);
        Check.due("store()", y.store(), 0);
        Check.due("ahead of all", y.gate(0), NONE);
        Check.due("ahead of all", y.ride(0), NONE);
        Check.due("ahead of all", y.byteAt(0), NONE);
        Check.due("ahead of all", y.undo(), NONE);
        Check.due("ahead of all", y.restore(0) || y.restore(1), false);
    }

    private static void tape() {
        Sentences.test("Promise 2", "Twenty bytes come behind the tape, of each number the highest first: how many it has;");
        TwoTierStore x = new TwoTierStore();
        x.end(0);
        Check.due("the first twenty", x.feed(0x6974656d, 0x20612032, 0x20332034, 0x3b697465, 0x6d206220), 20);
        Check.due("the next", x.feed(0x35203620, 0x373b8182, 0xffffffff, 0x80000000, -2), 40);
        x.end(26);
        Check.due("store()", x.store(), 2);
        Check.row("what the bytes told", x.item(0, 0) + " " + x.item(0, 1) + " " + x.item(0, 2)
            + " " + x.item(1, 0) + " " + x.item(1, 1) + " " + x.item(1, 2), "2 3 4 5 6 7");
        x.feed(0x726f6f6d, 0x20373b20, 0x20202020, 0x20202020, 0x20202020);
        x.end(7);
        Check.due("twenty behind seven", x.feed(0x72756c65, 0x206f6e63, 0x653b2020, 0x20202020, 0x20202020), 27);
        Check.due("store()", x.store(), 0);
        Check.row("what the bytes told", x.now(0) + " " + x.now(1), "7 0");
        x.feed(0xffffffff, 0, 0, 0, 0);
        Check.due("a byte of 255 is itself", x.store(), -1000);

        Sentences.test("Promise 2", "NONE, and none come, if it would have more than 440.");
        TwoTierStore y = new TwoTierStore();
        for (int n = 20; n <= 420; n += 20) {
            y.feed(0x20202020, 0x20202020, 0x20202020, 0x20202020, 0x20202020);
        }
        Check.due("420 and 20", y.feed(0, 0, 0, 0, 0), 440);
        Check.due("440 and 20", y.feed(0, 0, 0, 0, 0), NONE);
        Check.due("none come", y.now(7), 440);
        y.end(421);
        Check.due("421 and 20", y.feed(0, 0, 0, 0, 0), NONE);
        Check.due("none come", y.now(7), 421);
        y.end(420);
        Check.due("420 and 20 once more", y.feed(0, 0, 0, 0, 0), 440);

        Sentences.test("Promise 3", "The tape has its first n bytes alone: true;");
        TwoTierStore z = new TwoTierStore();
        Check.due("end(0) of none", z.end(0), true);
        Check.tape(z, "room 12;" + blanks(13));
        Check.due("all of them", z.end(21), true);
        Check.due("one less", z.end(20) && z.now(7) == 20, true);
        z.end(6);
        z.feed(0x3b202020, 0x20202020, 0x20202020, 0x20202020, 0x20202020);
        z.store();
        Check.due("what was cut is gone", z.now(0), 1);
        z.feed(1, 1, 1, 1, 1);
        Check.due("end(0)", z.end(0) && z.now(7) == 0, true);

        Sentences.test("Promise 3", "false, if it has not so many, or n is below 0.");
        TwoTierStore w = new TwoTierStore();
        Check.due("end(1) of none", w.end(1), false);
        w.feed(0, 0, 0, 0, 0);
        Check.due("end(21) of 20", w.end(21), false);
        Check.due("end(-1)", w.end(-1), false);
        Check.due("end(least)", w.end(Integer.MIN_VALUE), false);
        Check.due("end(most)", w.end(Integer.MAX_VALUE), false);
        Check.due("the tape stays", w.now(7), 20);
        Check.due("end(20) of 20", w.end(20), true);
        Check.due("end(19) of 20", w.end(19), true);
        Check.due("end(20) of 19", w.end(20), false);
    }

    private static void storing() {
        Sentences.test("Promise 4", "The tape (empty then, with a FAULT, too, here and below) is the STORE now");
        TwoTierStore x = new TwoTierStore();
        Check.tape(x, "item a 1 1 1;");
        x.store();
        Check.due("empty then", x.now(7), 0);
        Check.tape(x, "item a 1 1 0;");
        x.store();
        Check.due("with a FAULT, too", x.now(7), 0);
        Check.tape(x, "a;");
        x.names();
        Check.due("below", x.now(7), 0);
        Check.tape(x, "b;");
        x.names();
        Check.due("below, with a FAULT, too", x.now(7), 0);
        Check.tape(x, blanks(440));
        x.store();
        Check.due("with too many bytes", x.now(7), 0);
        Check.due("an empty tape is a STORE", x.store(), 0);
        Check.due("without ITEMS", x.now(2), 0);

        Sentences.test("Promise 4", "(all on SLOW, nothing paid, LOG, BOOKS empty (none opened), nothing can be undone): how many ITEMS;");
        TwoTierStore y = Check.made("room 20;rule heat;item a 1 1 1;item b 2 2 1;");
        y.book(0, 0, 3);
        y.book(2, 3, 0);
        Check.names(y, "a;b;");
        y.carry(0, 0);
        Check.row("ahead", y.now(3) + " " + y.now(5) + " " + y.now(6) + " " + y.now(8) + " " + y.now(9), "0 3 2 1 1");
        Check.row("the plan ahead", y.best() + " " + y.plan(1, 1), "2 0");
        Check.due("how many", Check.store(y, "item a 1 1 1;item b 2 9 5;"), 2);
        StringBuilder row = new StringBuilder();
        for (int what = 0; what < 10; what++) {
            row.append(y.now(what)).append(' ');
        }
        Check.row("now", row.toString(), "6 1 2 0 6 0 0 0 0 0 ");
        Check.row("DENSITY, COUNTER, HEAT", y.item(0, 3) + " " + y.item(0, 4) + " " + y.item(0, 5) + " " + y.item(1, 5), "0 0 0 0");
        Check.row("LOG", y.log(0, 0) + " " + y.best() + " " + y.spent(0, 0), "-1 -1 0");
        Check.row("BOOKS", y.booked(0, 0) + " " + y.booked(2, 4) + " " + y.line(0, 0, 0), "-1 -1 -1");
        Check.names(y, "b;b;");
        Check.row("the plan of the new LOG", y.best() + " " + y.plan(1, 1) + " " + y.upTo(0), "9 2 5");
        Check.due("a BOOK that is not opened takes none", y.line(0, 0, 0), NONE);
        Check.due("undo() goes back to store() alone", y.undo(), 0);
        Check.due("nothing can be undone", y.undo(), NONE);

        Sentences.test("Promise 4", "-1000 less the place of a FAULT: it stays.");
        TwoTierStore z = Check.made("room 9;rule once;item a 3 2 1;");
        z.book(1, 0, 5);
        z.request(0);
        for (String text : new String[] {"#", "room 1;rule heat;item b 1 1 1;item c 1 1 1", blanks(401), "item b 0 1 1;"}) {
            Check.due("store of \"" + text + "\"", Check.store(z, text) <= -1000, true);
            Check.row("it stays", z.now(0) + " " + z.now(1) + " " + z.now(2) + " " + z.now(3) + " " + z.now(5) + " " + z.now(6) + " " + z.item(0, 0)
                + " " + z.booked(1, 0) + " " + z.log(0, 1), "9 0 1 1 2 1 3 1 2");
        }
        Check.due("names() knows its NAME", Check.names(z, "a;"), 0);
        Check.row("what could be undone", z.undo() + " " + z.undo() + " " + z.undo(), "1 0 -1");
        Check.due("a FAULT at 0", Check.store(z, "#"), -1000);
        Check.due("a FAULT at 399", Check.store(z, blanks(399) + "#"), -1399);
    }

    private static void faultKinds() {
        Sentences.test("Promise 5", "The kind of the FAULT of the latest store(), names();");
        TwoTierStore x = Check.made(TWO);
        Check.store(x, "#");
        Check.due("1", x.fault(), 1);
        Check.names(x, "again 0[];");
        Check.due("2", x.fault(), 2);
        Check.store(x, "room 1;room");
        Check.due("3", x.fault(), 3);
        Check.store(x, EIGHT + "item");
        Check.due("4", x.fault(), 4);
        Check.names(x, "again 1[again 1[again");
        Check.due("5", x.fault(), 5);
        x.request(9);
        x.room(0);
        x.undo();
        x.feed(0, 0, 0, 0, 0);
        x.end(0);
        Check.due("what is neither leaves it", x.fault(), 5);

        Sentences.test("Promise 5", "0 without one and ahead of any.");
        Check.due("ahead of any", new TwoTierStore().fault(), 0);
        Check.names(x, "a;");
        Check.due("names() without one", x.fault(), 0);
        Check.names(x, "#");
        Check.store(x, "");
        Check.due("store() without one", x.fault(), 0);
    }

    // ---- promise 9 ----

    private static void steps() {
        Sentences.test("Promise 9", "The tape tells REQUESTS: { STEP ; }, STEP: NAME | 'again' N [ { STEP ; } ]");
        asks("", "");
        asks("   ", "");
        asks("a;", "0");
        asks("a;bb;a;", "010");
        asks(" a ; again 2 [ bb ; ] ; a ; ", "0110");
        asks("again 2[];", "");
        asks("again 2[a;bb;];", "0101");
        asks("again 2[again 3[a;];bb;];", "00010001");
        asks("again 2[again 1[a;];again 2[bb;];];again 1[a;];", "0110110");
        badSteps("again 2[;];", 8, 1);
        badSteps(";", 0, 1);
        badSteps("a;;", 2, 1);
        badSteps("[a;];", 0, 1);
        badSteps("2[a;];", 0, 1);

        Sentences.test("Promise 9", "(N 1 to 9: what stands in the brackets so often):");
        badSteps("again 0[a;];", 6, 2);
        asks("again 1[a;];", "0");
        asks("again 01[a;];", "0");
        asks("again 9[a;];", "000000000");
        badSteps("again 10[a;];", 6, 2);
        badSteps("again 100[a;];", 6, 1);
        badSteps("again[a;];", 5, 1);

        Sentences.test("Promise 9", "all are done, one by one (so many as the LOG has room for): what was PAID;");
        asks("again 5[again 8[a;];];", "0".repeat(40));
        asks("again 5[again 8[a;];];bb;", "0".repeat(40));
        asks("again 3[again 9[a;];bb;];again 9[a;];bb;", ("0".repeat(9) + "1").repeat(4));
        asks("again 9[again 9[a;];bb;];", ("0".repeat(9) + "1").repeat(4));
        asks("bb;" + "again 9[a;];".repeat(5), "1" + "0".repeat(39));
        TwoTierStore x = Check.made(TWO);
        Check.names(x, "again 3[again 9[a;bb;];];");
        Check.due("the LOG is full", x.now(6), 40);
        Check.due("none is done", Check.names(x, "a;bb;"), 0);
        Check.due("it has no FAULT", x.fault(), 0);
        x.undo();
        x.undo();
        Check.names(x, "again 4[again 9[a;];];a;a;a;");
        Check.due("39 of 40", x.now(6), 39);
        Check.due("one of two is done", Check.names(x, "bb;a;"), 2);
        Check.due("the one", x.log(39, 0), 1);
        TwoTierStore y = Check.made("rule once;item a 6 5 1;item b 6 7 1;");
        Check.due("one by one", Check.names(y, "a;b;a;a;"), 5 + 7 + 5);
    }

    private static void stepFaults() {
        Sentences.test("Promise 9", "-1000 less the place of a FAULT (as above;");
        badSteps("#", 0, 1);
        badSteps("a", 1, 1);
        badSteps("a  ", 3, 1);
        badSteps("again", 5, 1);
        badSteps("again 2", 7, 1);
        badSteps("again 2[", 8, 1);
        badSteps("again 2[a;", 10, 1);
        badSteps("again 2[a;]", 11, 1);
        badSteps("again 2[a];", 9, 1);
        badSteps("a;];", 2, 1);
        badSteps("again 2[a;];];", 12, 1);
        badSteps("room;", 0, 1);
        badSteps("rule;", 0, 1);
        badSteps("item;", 0, 1);
        badSteps("seventy;", 0, 1);
        asks("a;" + blanks(398), "0");
        badSteps("a;" + blanks(399), 400, 1);
        badSteps("a" + blanks(399), 400, 1);

        Sentences.test("Promise 9", "3 a NAME that no ITEM has;");
        badSteps("who;", 0, 3);
        badSteps("a; b;", 3, 3);
        badSteps("a;bbb;", 2, 3);
        badSteps("again 2[a;aa;", 10, 3);
        badSteps("once;", 0, 3);
        badSteps("xgain 2[a;];", 0, 3);
        badSteps("agaix 2[a;];", 0, 3);
        Check.due("with no ITEMS", Check.names(new TwoTierStore(), "a;"), -1000);

        Sentences.test("Promise 9", "5 an again within two others, at it):");
        asks("again 1[again 1[a;];];", "0");
        badSteps("again 1[again 1[again 1[a;];];];", 16, 5);
        badSteps("again 1[again 1[a; again", 19, 5);
        asks("again 1[again 1[a;];again 1[a;];];again 1[a;];", "000");
        badSteps("again 1[again 1[a;];again 1[again 1[a;];];];", 28, 5);

        Sentences.test("Promise 9", "none is.");
        for (String text : new String[] {"a;bb;who;", "a;bb", "again 3[a;", "a;again 0[];", "a;" + blanks(399), "a;again 1[again 1[a;again 1[];];];"}) {
            TwoTierStore x = Check.made(TWO);
            Check.names(x, text);
            Check.row("behind \"" + text + "\"", x.now(5) + " " + x.now(6) + " " + x.item(0, 5) + " " + x.undo(), "0 0 0 -1");
        }
    }
}
