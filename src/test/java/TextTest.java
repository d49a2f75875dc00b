/** THE TAPE, BOOKS and DEEDS, their FAULTS: promises 1 to 6, 30 to 33. */
public final class TextTest {
    private static final String THREE = "holder al;holder bo;holder cy;paper p;paper q;has al p 100;has bo p 7;has cy q 30;";

    public static void main(String[] args) {
        newObject();
        tape();
        books();
        bookFaults();
        tooMany();
        deedTexts();
        deedFaults();
        readAheadThenDone();
        statements();
        names();
        looks();
        Check.end("TextTest");
    }

    private static void newObject() {
        RecordClaims x = new RecordClaims();
        for (int what = 0; what <= 9; what++) {
            Check.due("look of a new object " + what, x.look(what), 0);
        }
        Check.due("fault 0", x.fault(0), 0);
        Check.due("fault 1", x.fault(1), -1);
        Check.due("has", x.has(0, 0), -1);
        Check.due("purse", x.purse(0), Long.MIN_VALUE);
        Check.due("told", x.told(0, 0), Long.MIN_VALUE);
        Check.due("event", x.event(0, 0), -1);
        Check.due("written", x.written(0, 0, 0), Long.MIN_VALUE);
        Check.due("claim", x.claim(0, 0, 0), -1);
        Check.due("issued", x.issued(0, 0), Long.MIN_VALUE);
        Check.due("net", x.net(0, -1, 0), -1);
        Check.due("worth", x.worth(0, 0, 0), Long.MIN_VALUE);
        Check.due("waits", x.waits(0), -2);
        Check.due("worst", x.worst(0, 0), -1);
        Check.due("show", x.show(0), -1);
        Check.due("out", x.out(0), -1);
        Check.due("undo", x.undo(), -1);
        Check.due("trade", x.trade(0, 1, 0, 1, 1, 1), -1);
        Check.due("money", x.money(0, 1, 1, 1, 1), -1);
    }

    private static void tape() {
        RecordClaims x = new RecordClaims();
        for (int i = 1; i <= 35; i++) {
            Check.due("feed " + i, x.feed(0x20202020, 0x20202020, 0x20202020, 0x20202020, 0x20202020), 20 * i);
        }
        Check.due("feed beyond 700", x.feed(0, 0, 0, 0, 0), -1);
        Check.due("none came", x.look(9), 700);
        Check.no("end below 0", x.end(-1));
        Check.no("end beyond", x.end(701));
        Check.yes("end with all", x.end(700));
        Check.yes("end at 681", x.end(681));
        Check.due("feed beyond 700 by one", x.feed(0, 0, 0, 0, 0), -1);
        Check.yes("end at 680", x.end(680));
        Check.due("feed up to 700", x.feed(0, 0, 0, 0, 0), 700);
        Check.yes("end at 0", x.end(0));
        Check.due("empty", x.look(9), 0);
        // highest byte first
        x.feed(('h' << 24) | ('o' << 16) | ('l' << 8) | 'd', ('e' << 24) | ('r' << 16) | ('a' << 8) | 'b', 0, 0, 0);
        x.end(8);
        Check.due("one WORD of eight letters", x.book(), -1);
        Check.due("its place", x.fault(1), 0);
        x.feed(('h' << 24) | ('o' << 16) | ('l' << 8) | 'd', ('e' << 24) | ('r' << 16) | (' ' << 8) | 'b',
                ';' << 24, 0, 0);
        x.end(9);
        Check.due("a BOOK", x.book(), 1);
        Check.due("shown", Check.shown(x, 0), "b: 0.");
    }

    private static void books() {
        RecordClaims x = Check.with(THREE);
        Check.due("tape empty", x.look(9), 0);
        Check.due("fault none", x.fault(0), 0);
        Check.due("place none", x.fault(1), -1);
        Check.due("another what", x.fault(2), -1);
        Check.due("another what", x.fault(-1), -1);
        Check.due("holders", x.look(0), 3);
        Check.due("papers", x.look(1), 2);
        Check.due("al p", x.has(0, 0), 100);
        Check.due("cy q", x.has(2, 1), 30);
        Check.due("al q", x.has(0, 1), 0);
        // a place of those it had, not more
        Check.due("has again", Check.book(x, "\nholder\nab paper z;"), -1);
        Check.due("all stays", x.has(0, 0), 100);
        Check.due("lines", Check.book(x, "holder a ; paper b; has a b 5;\n has a b 100000 ;\nhas a b 000000007;"), 5);
        Check.due("the latest", x.has(0, 0), 7);
        Check.due("one holder", x.look(0), 1);
        Check.due("without blanks", Check.book(x, "holder a;paper b;has a b4;"), 3);
        Check.due("has b4", x.has(0, 0), 4);
        Check.due("most", Check.book(x, "holder abcdef;paper z;has abcdef z 100000;"), 3);
        Check.due("has most", x.has(0, 0), 100000);
        Check.due("days", x.days(3), 3);
        Check.due("kept", x.look(8), 1);
        Check.due("empty BOOK", x.book(), 0);
        Check.due("no holders", x.look(0), 0);
        Check.due("no papers", x.look(1), 0);
        Check.due("DAY 0", x.look(4), 0);
        Check.due("nothing to undo", x.look(8), 0);
        Check.due("nothing to undo", x.undo(), -1);
        Check.due("blanks alone", Check.book(x, " \n "), 0);
        // what was is gone, SHARES, MONEY, TRADES, EVENTS too
        x = Check.with(THREE);
        x.trade(1, 0, 0, 10, 50, 1);
        x.money(0, 4, 1, 2, 4);
        x.days(5);
        Check.due("lines", Check.book(x, "holder a;holder b;paper c;paper d;"), 4);
        Check.due("shares", x.has(0, 0), 0);
        Check.due("purse", x.purse(0), 0);
        Check.due("trades", x.look(2), 0);
        Check.due("events", x.look(3), 0);
        Check.due("told", x.told(0, 0), Long.MIN_VALUE);
        Check.due("event", x.event(0, 0), -1);
    }

    private static void bookFault(String text, int fault, int place) {
        RecordClaims x = Check.with(THREE);
        x.days(2);
        Check.due("book '" + text + "'", Check.book(x, text), -1);
        Check.due("fault of '" + text + "'", x.fault(0), fault);
        Check.due("place of '" + text + "'", x.fault(1), place);
        Check.due("tape empty", x.look(9), 0);
        Check.due("all stays", x.has(0, 0), 100);
        Check.due("day stays", x.look(4), 2);
        Check.due("undo stays", x.undo(), 0);
    }

    private static void bookFaults() {
        bookFault("holder", 1, 6);
        bookFault("holder  \n ", 1, 10);
        bookFault("holder a", 1, 8);
        bookFault(";", 1, 0);
        bookFault("holder a;;", 1, 9);
        bookFault("holder a:", 1, 8);
        bookFault("Holder a;", 1, 0);
        bookFault("holder\ta;", 1, 6);
        bookFault("holder \351;", 1, 7);
        bookFault("holder \0;", 1, 7);
        bookFault("holder 5;", 1, 7);
        bookFault("holder abcdefg;", 1, 7);
        bookFault("holders a;", 1, 0);
        bookFault("holder a1;", 1, 8);
        bookFault("holder a b;", 1, 9);
        bookFault("a;", 1, 0);
        bookFault("trade a;", 1, 0);
        for (String word : "holder paper has trade within money gift rights turn into for at worth until plus cash ex record pay choose days".split(" ")) {
            bookFault("holder " + word + ";", 1, 7);
            bookFault("paper " + word + ";", 1, 6);
        }
        bookFault("holder a;holder a;", 2, 16);
        bookFault("holder a;paper a;", 2, 15);
        bookFault("paper a;holder a;", 2, 15);
        bookFault("holder a;holder a 1", 2, 16);
        bookFault("has a p 5;", 2, 4);
        bookFault("holder a;paper b;has b a 5;", 2, 21);
        bookFault("holder a;paper b;has a a 5;", 2, 23);
        bookFault("holder a;paper b;has a c 5;", 2, 23);
        bookFault("holder a;has a", 1, 14);
        bookFault("holder a;paper b;has a b;", 1, 24);
        bookFault("holder a;paper b;has a b c;", 1, 25);
        bookFault("holder a;paper b;has a b 100001;", 3, 25);
        bookFault("holder a;paper b;has a b 999999999", 3, 25);
        bookFault("holder a;paper b;has a b 1234567890;", 1, 25);
        bookFault("holder a;paper b;has a b 0000000001;", 1, 25);
        bookFault("holder a;paper b;has a b 5 6;", 1, 27);
        bookFault("holder a;paper b;has a b -5;", 1, 25);
        // NAMES of the BOOK before are none
        bookFault("holder bo;has al p 5;", 2, 14);
    }

    private static void tooMany() {
        StringBuilder text = new StringBuilder();
        for (int i = 0; i < 10; i++) {
            text.append("holder h").append((char) ('a' + i)).append(';');
        }
        for (int i = 0; i < 5; i++) {
            text.append("paper p").append((char) ('a' + i)).append(';');
        }
        RecordClaims x = new RecordClaims();
        Check.due("ten and five", Check.book(x, text.toString()), 15);
        Check.due("holders", x.look(0), 10);
        Check.due("papers", x.look(1), 5);
        int length = text.length();
        bookFault(text + " holder k;", 4, length + 1);
        bookFault(text + "holder", 4, length);
        bookFault(text + "holder ha;", 4, length);
        bookFault(text + "paper k;", 4, length);
        bookFault(text + "paper 7", 4, length);
    }

    private static void deedTexts() {
        RecordClaims x = Check.with(THREE);
        Check.due("no DEEDS", Check.deeds(x, ""), 0);
        Check.due("nothing to undo", x.look(8), 0);
        Check.due("deeds", Check.deeds(x, "trade bo al p 10 50;trade al bo q 1 0 within 9;money p 4 ex 1 record 2 pay 4;"
                + "gift p 1 for 3 cash 7 ex 6 record 6 pay 7;"
                + "rights q 2 for 1 at 5 worth 20 until 9 ex 7 record 8 pay 10;"
                + "turn p into q 3 for 2 plus 5 cash 11 record 12;choose 2 bo 30 40;days 2;"), 8);
        Check.due("tape", x.look(9), 0);
        Check.due("fault", x.fault(0), 0);
        Check.due("one to undo", x.look(8), 1);
        long[] first = {1, 0, 0, 10, 50, 0, 2, 1, 2};
        long[] second = {0, 1, 1, 1, 0, 0, 9, 0, -1};
        for (int what = 0; what < 9; what++) {
            Check.due("trade 0 " + what, x.told(0, what), first[what]);
            Check.due("trade 1 " + what, x.told(1, what), second[what]);
        }
        int[][] events = {{0, 0, 1, 2, 4, 1}, {1, 0, 6, 6, 7, 0}, {2, 1, 7, 8, 10, 0}, {3, 0, 12, 12, 12, 0}};
        for (int e = 0; e < 4; e++) {
            for (int what = 0; what < 6; what++) {
                Check.due("event " + e + " " + what, x.event(e, what), events[e][what]);
            }
        }
        Check.due("take", x.written(2, 1, 2), 30);
        Check.due("sell", x.written(2, 1, 3), 40);
        // terms: a, b, c, CASH, price, worth, until
        Check.due("gift a by b", x.worth(1, 100, 0) * 100 + x.worth(1, 100, 1), 7501);
        Check.due("rights", x.worth(2, 100, 0) * 100 + x.worth(2, 100, 1), 11003);
        Check.due("undo all", x.undo(), 0);
        Check.due("trades", x.look(2), 0);
        Check.due("events", x.look(3), 0);
        Check.due("day", x.look(4), 0);
        Check.due("newlines, no blanks", Check.deeds(x, "money\np4ex1record2pay4;days1;days\n1 ;"), 3);
        Check.due("day", x.look(4), 2);
    }

    private static void deedFault(String text, int fault, int place) {
        RecordClaims x = Check.with(THREE);
        Check.due("deeds '" + text + "'", Check.deeds(x, text), -1);
        Check.due("fault of '" + text + "'", x.fault(0), fault);
        Check.due("place of '" + text + "'", x.fault(1), place);
        Check.due("tape empty", x.look(9), 0);
        // the same behind a good one: none is done
        Check.due("deeds 'days 1;" + text + "'", Check.deeds(x, "days 1;" + text), -1);
        Check.due("fault of '" + text + "'", x.fault(0), fault);
        Check.due("place of '" + text + "'", x.fault(1), place + 7);
        Check.due("none is done", x.look(4), 0);
        Check.due("nothing to undo", x.undo(), -1);
    }

    private static void deedFaults() {
        deedFault("trade zz al p 1 1;", 2, 6);
        deedFault("trade bo al al 1 1;", 2, 12);
        deedFault("trade bo p p 1 1;", 2, 9);
        deedFault("trade bo al p 1;", 1, 15);
        deedFault("trade bo al p 1 1 1;", 1, 18);
        deedFault("trade bo al p 1 1 within;", 1, 24);
        deedFault("trade bo al p 1 1 within 2 within 2;", 1, 27);
        deedFault("trade bo al p 1 1", 1, 17);
        deedFault("trade trade", 1, 6);
        deedFault("tradebo al p 1 1;", 1, 0);
        deedFault("holder a;", 1, 0);
        deedFault("within 2;", 1, 0);
        deedFault("money al 4 ex 1 record 2 pay 4;", 2, 6);
        deedFault("money p 4 record 2 pay 4;", 1, 10);
        deedFault("money p 4 ex 1 pay 4;", 1, 15);
        deedFault("money p 4 ex 1 record 2;", 1, 23);
        deedFault("money p x;", 1, 8);
        deedFault("gift p 1 for 3 ex 6 record 6 pay 7;", 1, 15);
        deedFault("gift p 1 3 cash 7;", 1, 9);
        deedFault("gift z 1 3 cash 7;", 2, 5);
        deedFault("rights q 2 for 1 at 5 until 9 ex 7 record 8 pay 10;", 1, 22);
        deedFault("rights q 2 for 1 at 5 worth 20 ex 7 record 8 pay 10;", 1, 31);
        deedFault("rights q 2 for 1 worth 5;", 1, 17);
        deedFault("turn p q 3 for 2 plus 5 cash 11 record 12;", 1, 7);
        deedFault("turn p into z 3 for 2 plus 5 cash 11 record 12;", 2, 12);
        deedFault("turn p into q 3 for 2 cash 11 record 12;", 1, 22);
        deedFault("turn p into q 3 for 2 plus 5 record 12;", 1, 29);
        deedFault("turn p into q 3 for 2 plus 5 cash 11 ex 12;", 1, 37);
        deedFault("turn p into q 3 for 2 plus 5 cash 11 record 12 pay 13;", 1, 47);
        deedFault("choose al 1 2 3;", 1, 7);
        deedFault("choose 0 p 2 3;", 2, 9);
        deedFault("choose 0 al 2;", 1, 13);
        deedFault("choose 0 al 2 1234567890;", 1, 14);
        deedFault("days 1234567890;", 1, 5);
        deedFault("days a;", 1, 5);
        deedFault("days;", 1, 4);
        deedFault("days 1", 1, 6);
        deedFault("days 1 ; \n days", 1, 15);
        deedFault("days 1,", 1, 6);
        deedFault("foo;", 1, 0);
        deedFault("7;", 1, 0);
    }

    private static void readAheadThenDone() {
        // none of these is a FAULT: the deed can't be, and the doing ends there
        String[] cannot = {"trade al al p 1 1;", "trade bo al p 0 1;", "trade bo al p 100001 1;", "trade bo al p 1 100000000;",
            "trade bo al p 1 1 within 0;", "trade bo al p 1 1 within 10;", "money p 0 ex 2 record 2 pay 2;",
            "money p 1000 ex 2 record 2 pay 2;", "money p 1 ex 1 record 2 pay 2;", "money p 1 ex 3 record 2 pay 3;",
            "money p 1 ex 2 record 3 pay 2;", "money p 1 ex 2 record 3 pay 1000;", "gift p 0 for 1 cash 1 ex 2 record 2 pay 2;",
            "gift p 10 for 1 cash 1 ex 2 record 2 pay 2;", "gift p 1 for 0 cash 1 ex 2 record 2 pay 2;",
            "gift p 1 for 10 cash 1 ex 2 record 2 pay 2;", "gift p 1 for 1 cash 1000 ex 2 record 2 pay 2;",
            "rights p 1 for 1 at 1000 worth 1 until 2 ex 2 record 2 pay 2;",
            "rights p 1 for 1 at 1 worth 1000 until 2 ex 2 record 2 pay 2;",
            "rights p 1 for 1 at 1 worth 1 until 1 ex 2 record 2 pay 2;",
            "rights p 1 for 1 at 1 worth 1 until 3 ex 2 record 2 pay 2;",
            "turn p into p 1 for 1 plus 0 cash 0 record 5;", "turn p into q 1 for 1 plus 1000 cash 0 record 5;",
            "turn p into q 1 for 1 plus 0 cash 1000 record 5;", "turn p into q 1 for 1 plus 0 cash 0 record 1;",
            "choose 0 al 1 1;", "choose 999999999 al 1 1;", "days 0;", "days 100;", "days 999999999;"};
        for (String deed : cannot) {
            RecordClaims x = Check.with(THREE);
            Check.due("deeds 'days 1;" + deed + "'", Check.deeds(x, "days 1;" + deed + "days 1;"), 1);
            Check.due("no fault", x.fault(0), 0);
            Check.due("no place", x.fault(1), -1);
            Check.due("day", x.look(4), 1);
            Check.due("trades", x.look(2), 0);
            Check.due("events", x.look(3), 0);
            Check.due("'" + deed + "' first", Check.deeds(x, deed + "days 1;"), 0);
            Check.due("no fault", x.fault(0), 0);
            Check.due("kept", x.look(8), 1);
            Check.due("undo", x.undo(), 0);
            Check.due("day", x.look(4), 0);
        }
        // as many tokens as there are bytes
        for (String each : new String[] {";", "1a", "a1", ";1"}) {
            RecordClaims y = Check.with(THREE);
            StringBuilder full = new StringBuilder();
            while (full.length() < 700) {
                full.append(each);
            }
            Check.due("book of 700 tokens", Check.book(y, full.toString()), -1);
            Check.due("its place", y.fault(1), 0);
            Check.due("deeds of 700 tokens", Check.deeds(y, full.toString()), -1);
            Check.due("its place", y.fault(1), 0);
            Check.due("named of 700 tokens", named(y, full.toString(), 0), -1);
        }
        // a long tape: 700 bytes of the shortest deed
        RecordClaims x = Check.with(THREE);
        StringBuilder text = new StringBuilder();
        for (int i = 0; i < 116; i++) {
            text.append("days1;");
        }
        Check.due("116 deeds", Check.deeds(x, text + "    "), 116);
        Check.due("day", x.look(4), 116);
    }

    private static void statements() {
        RecordClaims x = Check.with(THREE);
        Check.due("al", Check.shown(x, 0), "al: 100 p, 0.");
        Check.due("cy", Check.shown(x, 2), "cy: 30 q, 0.");
        x.trade(0, 2, 1, 30, 12345678, 1);
        x.days(1);
        Check.due("both", Check.shown(x, 0), "al: 100 p, 30 q, -12345678.");
        Check.due("none", Check.shown(x, 2), "cy: 12345678.");
        Check.due("no such", x.show(3), -1);
        Check.due("below", x.show(-1), -1);
        Check.due("the latest stays", x.out(0), 'c');
        Check.due("its last", x.out(12), '.');
        Check.due("behind", x.out(13), -1);
        Check.due("ahead", x.out(-1), -1);
        Check.due("far", x.out(Integer.MAX_VALUE), -1);
        x = Check.with("holder azazaz;paper zzzzzz;has azazaz zzzzzz 100000;");
        Check.due("long names", Check.shown(x, 0), "azazaz: 100000 zzzzzz, 0.");
    }

    private static int named(RecordClaims x, String text, int what) {
        Check.put(x, text);
        int answer = x.named(what);
        Check.due("tape empty behind '" + text + "'", x.look(9), 0);
        return answer;
    }

    private static void names() {
        RecordClaims x = Check.with(THREE);
        Check.due("bo", named(x, "bo", 0), 1);
        Check.due("blanks", named(x, " \ncy \n", 0), 2);
        Check.due("q", named(x, "q", 1), 1);
        Check.due("a PAPER is no HOLDER", named(x, "q", 0), -1);
        Check.due("a HOLDER is no PAPER", named(x, "bo", 1), -1);
        Check.due("two", named(x, "bo cy", 0), -1);
        Check.due("behind", named(x, "bo;", 0), -1);
        Check.due("digit", named(x, "bo1", 0), -1);
        Check.due("ahead", named(x, ";bo", 0), -1);
        Check.due("none", named(x, "", 0), -1);
        Check.due("blanks alone", named(x, "  ", 0), -1);
        Check.due("keyword", named(x, "pay", 0), -1);
        Check.due("longer", named(x, "boo", 0), -1);
        Check.due("shorter", named(x, "b", 0), -1);
        Check.due("seven letters", named(x, "aaaaabo", 0), -1);
        Check.due("number", named(x, "15", 0), -1);
        Check.due("another what", named(x, "bo", 2), -1);
        Check.due("another what", named(x, "bo", -1), -1);
        // FAULTS are those of book() and deeds() alone
        Check.due("fault", Check.deeds(x, "days 1"), -1);
        Check.due("bo", named(x, "bo", 0), 1);
        Check.due("fault stays", x.fault(0), 1);
        Check.due("place stays", x.fault(1), 6);
    }

    private static void looks() {
        RecordClaims x = Check.with(THREE);
        x.trade(1, 0, 0, 101, 5, 1);
        x.trade(1, 0, 0, 10, 5, 1);
        x.trade(1, 0, 0, 10, 5, 9);
        x.money(0, 1, 5, 5, 5);
        Check.put(x, "days");
        int[] ahead = {3, 2, 3, 1, 0, 3, 0, 0, 4, 4};
        for (int what = 0; what < 10; what++) {
            Check.due("look " + what, x.look(what), ahead[what]);
        }
        x.days(1);
        Check.due("open in the DAY", x.look(5), 2);
        Check.due("not beyond yet", x.look(6), 0);
        x.days(1);
        Check.due("beyond", x.look(6), 1);
        Check.due("another what", x.look(10), -1);
        Check.due("another what", x.look(-1), -1);
    }
}
