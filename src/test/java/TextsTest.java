/** Promises 1 to 5 and 9: a new object, the tape, and the two kinds of text. */
public final class TextsTest {
    private static final int NONE = TwoTierStore.NONE;
    private static final String BLANKS = " ".repeat(400);
    private static final String EIGHT = "item a 1 1 1;item b 1 1 1;item c 1 1 1;item d 1 1 1;"
        + "item e 1 1 1;item f 1 1 1;item g 1 1 1;item h 1 1 1;";

    public static void main(String[] args) {
        promise1();
        promise2();
        promise3();
        promise4();
        promise4Faults();
        promise5();
        promise9();
        promise9Faults();
        Check.finish();
    }

    private static void promise1() {
        TwoTierStore x = new TwoTierStore();
        Check.due("NONE", NONE, -1);
        Check.due("ROOM of a new object", x.now(0), 6);
        Check.due("RULE of a new object", x.now(1), 1);
        Check.due("ITEMS of a new object", x.now(2), 0);
        Check.due("tape of a new object", x.now(7), 0);
        for (int k = 0; k < 3; k++) {
            Check.due("BOOK of a new object", x.booked(k, 0), NONE);
        }
    }

    private static void promise2() {
        TwoTierStore x = new TwoTierStore();
        for (int n = 20; n <= 440; n += 20) {
            Check.due("feed to " + n, x.feed(n, 0, -1, 0, 0), n);
        }
        Check.due("feed beyond 440", x.feed(1, 2, 3, 4, 5), NONE);
        Check.due("tape behind it", x.now(7), 440);
        x.end(421);
        Check.due("feed to 441", x.feed(1, 2, 3, 4, 5), NONE);
        x.end(420);
        Check.due("feed to 440", x.feed(1, 2, 3, 4, 5), 440);

        x.end(0);
        x.feed(0x6974656d, 0x20612031, 0x20322033, 0x3b202020, 0x20202020);
        Check.due("the highest byte comes first", x.store(), 1);
        Check.due("SIZE", x.item(0, 0), 1);
        Check.due("RENT", x.item(0, 2), 3);
    }

    private static void promise3() {
        TwoTierStore x = new TwoTierStore();
        Check.due("end(0) of an empty tape", x.end(0), true);
        Check.due("end(1) of an empty tape", x.end(1), false);
        Check.due("end(-1)", x.end(-1), false);
        x.feed(0, 0, 0, 0, 0);
        Check.due("end(21)", x.end(21), false);
        Check.due("tape behind end(21)", x.now(7), 20);
        Check.due("end(20)", x.end(20), true);
        Check.due("end(7)", x.end(7), true);
        Check.due("tape behind end(7)", x.now(7), 7);
        Check.due("end(8)", x.end(8), false);
        Check.due("end(least)", x.end(Integer.MIN_VALUE), false);
        Check.due("end(most)", x.end(Integer.MAX_VALUE), false);
    }

    private static void promise4() {
        TwoTierStore x = new TwoTierStore();
        Check.due("store of nothing", x.store(), 0);
        Check.due("store of blanks", Check.store(x, "   "), 0);
        Check.due("store of 400 blanks", Check.store(x, BLANKS), 0);
        Check.due("store of eight", Check.store(x, EIGHT), 8);
        Check.due("tape behind store()", x.now(7), 0);
        Check.due("store of all", Check.store(x, " room  20 ; item ab 6 60 20 ;rule heat;item once 01 09 1;  "), 2);
        Check.row("what it tells", x.now(0) + " " + x.now(1) + " " + x.item(0, 0) + " " + x.item(0, 1) + " " + x.item(0, 2)
            + " " + x.item(1, 0) + " " + x.item(1, 1), "20 2 6 60 20 1 9");

        Check.due("the least ROOM, the longest NAME", Check.store(x, "rule once;room 1;item abcdef 1 1 1;"), 1);
        Check.row("what it tells", x.now(0) + " " + x.now(1) + " " + x.request(0), "1 0 1");
        Check.due("NAMES that begin alike", Check.store(x, "item a 1 1 1;item aa 1 1 1;item aaaaaa 1 1 1;item aaaaae 1 1 1;item eaaaaa 1 1 1;"), 5);

        Check.store(x, "room 20;rule heat;item ab 6 60 20;item once 01 09 1;");
        x.carry(0, 1);
        x.request(1);
        x.book(0, 0, 3);
        Check.due("store anew, without room and rule", Check.store(x, "item room"), -1005);
        Check.due("a FAULT: ROOM stays", x.now(0), 20);
        Check.due("a FAULT: PAID stays", x.now(5), 61);
        Check.due("a FAULT: the tape is empty", x.now(7), 0);
        Check.due("a FAULT: BOOKS stay", x.booked(0, 0), 0);
        x.carry(1, 1);
        x.carry(1, 0);
        Check.due("best() of the LOG", x.best(), 1);
        Check.due("store anew", Check.store(x, "item ab 6 60 20;"), 1);
        Check.row("all is new", x.now(0) + " " + x.now(1) + " " + x.now(3) + " " + x.now(5) + " " + x.now(6) + " " + x.now(8) + " " + x.now(9)
            + " " + x.booked(0, 0) + " " + x.undo() + " " + x.item(0, 5), "6 1 0 0 0 0 0 -1 -1 0");
        Check.due("no line of a BOOK that was", x.line(0, 0, 0), NONE);
        x.request(0);
        Check.due("best() of the new LOG", x.best(), 20);
    }

    private static void fault(String text, int place, int kind) {
        TwoTierStore x = new TwoTierStore();
        Check.due("store of \"" + text + "\"", Check.store(x, text), -1000 - place);
        Check.due("fault() of \"" + text + "\"", x.fault(), kind);
    }

    /** What end() cut off is not read, whatever bytes it was. */
    private static void cutFault(String text, int n, int place, int kind) {
        TwoTierStore x = new TwoTierStore();
        Check.tape(x, text);
        x.end(n);
        Check.due("store of \"" + text + "\" up to " + n, x.store(), -1000 - place);
        Check.due("fault() of \"" + text + "\" up to " + n, x.fault(), kind);
    }

    private static void promise4Faults() {
        fault(BLANKS + " ", 400, 1);
        fault("#" + BLANKS, 400, 1);
        fault("room", 4, 1);
        fault("room  ", 6, 1);
        cutFault("room            ", 4, 4, 1);
        cutFault("room 5 ;        ", 6, 6, 1);
        cutFault("room 20;        ", 6, 6, 1);
        cutFault("room 20;room 5; ", 9, 8, 1);
        fault("room 5 ", 7, 1);
        fault(";", 0, 1);
        fault("room 5;;", 7, 1);
        fault("room ;", 5, 1);
        fault("room x;", 5, 1);
        fault("room 5x;", 5, 1);
        fault("room5;", 0, 1);
        fault("roomy 5;", 0, 1);
        fault("boom 5;", 0, 1);
        fault("roo 5;", 0, 1);
        fault("rule ones;", 5, 1);
        fault("rule on;", 5, 1);
        fault("room 100;", 5, 1);
        fault("room 5 [", 7, 1);
        fault("room 5#;", 6, 1);
        fault("Room 5;", 0, 1);
        fault((char) 233 + ";", 0, 1);
        fault("again;", 0, 1);
        fault("rule 1;", 5, 1);
        fault("rule room;", 5, 1);
        fault("rule once heat;", 10, 1);
        fault("item;", 4, 1);
        fault("item 5 1 1 1;", 5, 1);
        fault("item again 1 1 1;", 5, 1);
        fault("item item 1 1 1;", 5, 1);
        fault("item rule 1 1 1;", 5, 1);
        fault("item sevenly 1 1 1;", 5, 1);
        fault("item a1 1 1 1;", 5, 1);
        fault("item a 1 1 1 1;", 13, 1);
        fault("item a 1 1 1 ", 13, 1);
        fault("room 0;", 5, 2);
        fault("room 00;", 5, 2);
        fault("room 21;", 5, 2);
        fault("item a 0 1 1;", 7, 2);
        fault("item a 7 1 1;", 7, 2);
        fault("item a 1 0 1;", 9, 2);
        fault("item a 1 61 1;", 9, 2);
        fault("item a 1 1 0;", 11, 2);
        fault("item a 1 1 21;", 11, 2);
        fault("room 5;room 5;", 7, 3);
        fault("room 5;room", 7, 3);
        fault("rule once;room 2; rule once;", 18, 3);
        fault("item a 1 1 1;item a 9 9 99;", 18, 3);
        fault(EIGHT + "item a 1 1 1;", 104, 4);
        fault(EIGHT + "item", 104, 4);
        fault(EIGHT + "room 0;", 109, 2);
    }

    private static void promise5() {
        TwoTierStore x = new TwoTierStore();
        Check.due("fault() ahead of any", x.fault(), 0);
        Check.store(x, "room 0;");
        Check.due("fault() of store()", x.fault(), 2);
        x.request(0);
        Check.due("fault() stays", x.fault(), 2);
        Check.names(x, "");
        Check.due("fault() of names() without one", x.fault(), 0);
        Check.names(x, "who;");
        Check.due("fault() of names()", x.fault(), 3);
        Check.store(x, "room 5;");
        Check.due("fault() of store() without one", x.fault(), 0);
    }

    private static String logged(TwoTierStore x) {
        StringBuilder all = new StringBuilder();
        for (int i = 0; i < x.now(6); i++) {
            all.append(x.log(i, 0));
        }
        return all.toString();
    }

    private static void names(String text, int paid, String asked) {
        TwoTierStore x = Check.made("item a 1 60 1;item bb 1 60 2;item c 6 60 3;");
        Check.due("names of \"" + text + "\"", Check.names(x, text), paid);
        Check.row("the LOG of \"" + text + "\"", logged(x), asked);
        Check.due("tape behind names()", x.now(7), 0);
    }

    private static void promise9() {
        names("", 0, "");
        names("a;bb;c;", 6, "012");
        names(" a ; c ; ", 4, "02");
        names("again 3 [a;bb;];c;", 12, "0101012");
        names("again 2[again 3[a;];bb;];", 10, "00010001");
        names("again 2 [again 1 [a;]; again 2 [bb;]; ];", 10, "011011");
        names("again 9 [];", 0, "");
        names("again 9 [again 9 [];];a;", 1, "0");
        names("again 09 [a;];", 9, "000000000");
        names("again 9[again 9[a;];];bb;", 40, "0".repeat(40));
        names("again 3[again 7[a;];bb;];", 27, "0000000" + "1" + "0000000" + "1" + "0000000" + "1");
        names("again 6[again 6[a;];bb;];", 45, "0000001".repeat(6).substring(0, 40));

        TwoTierStore y = Check.made("item a 1 60 1;");
        Check.names(y, "again 2 [ again 2 [ who;");
        Check.due("behind a FAULT within two", Check.names(y, "again 2 [ again 2 [ a; ]; ];"), 4);
        TwoTierStore x = Check.made("item a 1 60 1;");
        x.drawn(38, 5);
        Check.due("names with room for two", Check.names(x, "again 5 [a;];"), 2);
        Check.due("the LOG is full", x.now(6), 40);
        Check.due("names with room for none", Check.names(x, "a;"), 0);
        Check.due("it has no FAULT", x.fault(), 0);
    }

    private static void namesFault(String text, int place, int kind) {
        TwoTierStore x = Check.made("item a 1 60 1;item bb 1 60 2;");
        Check.due("names of \"" + text + "\"", Check.names(x, text), -1000 - place);
        Check.due("fault() of \"" + text + "\"", x.fault(), kind);
        Check.due("REQUESTS behind \"" + text + "\"", x.now(6), 0);
        Check.due("tape behind a FAULT", x.now(7), 0);
        Check.due("undo() behind a FAULT", x.undo(), NONE);
    }

    private static void promise9Faults() {
        namesFault("a", 1, 1);
        namesFault("a;bb", 4, 1);
        namesFault("a;]", 2, 1);
        namesFault(";", 0, 1);
        namesFault("a;7;", 2, 1);
        namesFault("a a;", 2, 1);
        namesFault("item;", 0, 1);
        namesFault("room;", 0, 1);
        namesFault("rule;", 0, 1);
        namesFault("a;sevenly;", 2, 1);
        namesFault("again;", 5, 1);
        namesFault("again a;", 6, 1);
        namesFault("again 3;", 7, 1);
        namesFault("again 3 a;", 8, 1);
        namesFault("again 100 [a;];", 6, 1);
        namesFault("again 2 [a];", 10, 1);
        namesFault("again 2 [a;]", 12, 1);
        namesFault("again 2 [a; ", 12, 1);
        namesFault("again 2 [a;]]", 12, 1);
        namesFault("again 2 [a;];]", 13, 1);
        namesFault("again 0 [a;];", 6, 2);
        namesFault("again 10 [a;];", 6, 2);
        namesFault("a;b;", 2, 3);
        namesFault("a;once;", 2, 3);
        namesFault("again 2[again 2[again", 16, 5);
        namesFault("again 2[a;again 2[a;again 2[a;];];];", 20, 5);
        namesFault(BLANKS + "a;", 400, 1);
    }
}
