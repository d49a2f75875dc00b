/** Sentences of the document that name an edge: texts, THE TAPE, FAULTS, what is SHOWN (promises 1 to 6, 30 to 33). */
public final class TextEdgeTest {
    private static final long NO = Long.MIN_VALUE;
    private static final int[] FAR = {Integer.MIN_VALUE, Integer.MIN_VALUE + 1, -2, -1, 61, 100, 700, 1000, Integer.MAX_VALUE - 1,
        Integer.MAX_VALUE};
    private static final String THREE = "holder al;holder bo;holder cy;paper p;paper q;has al p 100;has bo p 7;has cy q 30;";
    private static final String RICH = "trade bo al p 10 50 within 3;trade al bo p 200 5;money p 4 ex 1 record 2 pay 4;"
            + "gift p 2 for 3 cash 7 ex 1 record 2 pay 3;rights p 2 for 1 at 5 worth 20 until 3 ex 2 record 2 pay 4;"
            + "turn p into q 3 for 2 plus 5 cash 11 record 7;choose 2 al 30 40;money q 3 ex 1 record 5 pay 6;days 5;";

    public static void main(String[] args) {
        newObject();
        feedUpTo700();
        feedHighestFirst();
        ends();
        signsOfTexts();
        wordsOf1To6Letters();
        numbersOf1To9Digits();
        emptyBook();
        sharesInPlace();
        bookInPlaceOfAll();
        bookBehindBooks();
        bookBehindAllThereCanBe();
        namesOfBooksBefore();
        bookWithAFault();
        fullBook();
        theEnd();
        whatCantStandThere();
        byTextAsByCall();
        ofOnePlaceTheLeast();
        firstFromTheLeft();
        eleventhAndSixth();
        emptyDeeds();
        deedsUpToTheFirst();
        deedsWithAFault();
        deedsSeeOneAnother();
        boundsByText();
        faultOfTheLatest();
        statements();
        statementNumbers();
        outs();
        namedAlone();
        looks();
        Check.end("TextEdgeTest");
    }

    /** "Nobody, nothing." */
    private static void newObject() {
        RecordClaims x = new RecordClaims();
        for (int i = -1; i <= 60; i++) {
            Check.due("1: purse", x.purse(i), NO);
            Check.due("1: purseAhead", x.purseAhead(i, 0), NO);
            Check.due("1: told", x.told(i, 0), NO);
            Check.due("1: waits", x.waits(i), -2);
            Check.due("1: show", x.show(i), -1);
            Check.due("1: out", x.out(i), -1);
            for (int k = -1; k <= 10; k++) {
                Check.due("1: has", x.has(i, k), -1);
                Check.due("1: ahead", x.ahead(i, k, 0), -1);
                Check.due("1: wants", x.wants(i, k), -1);
                Check.due("1: carries", x.carries(k, 1, 0), -1);
                Check.due("1: event", x.event(i, k), -1);
                Check.due("1: written", x.written(i, k, 0), NO);
                Check.due("1: claim", x.claim(i, k, 0), -1);
                Check.due("1: issued", x.issued(i, k), NO);
                Check.due("1: net", x.net(i, k, 0), -1);
                Check.due("1: worth", x.worth(i, k, 0), NO);
                Check.due("1: worst", x.worst(i, k), -1);
                Check.no("1: choose", x.choose(i, k, 0, 0));
            }
        }
        Check.due("1: no name", x.named(0), -1);
        Check.due("1: no deeds", x.deeds(), 0);
        Check.due("1: undo", x.undo(), -1);
        Check.due("1: no line", x.book(), 0);
        Check.due("1: DAYS go by all the same", x.days(99), 99);
        Check.due("1: and back", x.undo(), 0);
        Check.due("1: DAY 0", x.look(4), 0);
    }

    /** "NONE, and none come, if there would be more than 700." */
    private static void feedUpTo700() {
        int blank = 0x20202020;
        RecordClaims x = new RecordClaims();
        for (int had = 0; had <= 700; had++) {
            while (x.feed(blank, blank, blank, blank, blank) >= 0) {
                Check.yes("2: 700 at most", x.look(9) <= 700);
            }
            Check.due("2: full", x.look(9), 700);
            x.end(had);
            Check.due("2: feed behind " + had, x.feed(0, 0, 0, 0, 0), had <= 680 ? had + 20 : -1);
            Check.due("2: bytes", x.look(9), had <= 680 ? had + 20 : had);
            x.end(0);
        }
        // what is refused leaves no byte: the blanks stay blanks
        Check.put(x, "holder a;");
        while (x.look(9) <= 680) {
            x.feed(blank, blank, blank, blank, blank);
        }
        int length = x.look(9);
        Check.due("2: refused", x.feed(0x3b3b3b3b, 0x3b3b3b3b, 0x3b3b3b3b, 0x3b3b3b3b, 0x3b3b3b3b), -1);
        Check.due("2: as many", x.look(9), length);
        Check.due("2: blanks behind", x.book(), 1);
    }

    /** "four of each number, the highest first": each of the twenty places, and the sign's bit. */
    private static void feedHighestFirst() {
        for (int place = 0; place < 20; place++) {
            int[] n = {0x20202020, 0x20202020, 0x20202020, 0x20202020, 0x20202020};
            int shift = 24 - 8 * (place % 4);
            n[place / 4] = n[place / 4] & ~(255 << shift) | 'x' << shift;
            RecordClaims x = new RecordClaims();
            x.feed(n[0], n[1], n[2], n[3], n[4]);
            Check.due("2: an x", x.book(), -1);
            Check.due("2: at its place", x.fault(1), place);
            n[place / 4] = n[place / 4] & ~(255 << shift) | 0xe1 << shift;
            x.feed(n[0], n[1], n[2], n[3], n[4]);
            Check.due("2: a byte above 127", x.deeds(), -1);
            Check.due("2: at its place", x.fault(1), place);
        }
        RecordClaims x = new RecordClaims();
        Check.put(x, "holder abcdef;paper z;has abcdef z 12345;");
        Check.due("2: behind one another", x.book(), 3);
        Check.due("2: SHARES", x.has(0, 0), 12345);
    }

    /** "true; false if it has not so many, or n is below 0." */
    private static void ends() {
        RecordClaims x = new RecordClaims();
        Check.yes("3: nothing of nothing", x.end(0));
        Check.no("3: one of nothing", x.end(1));
        Check.put(x, "holder a;paper");
        for (int n : new int[] {Integer.MIN_VALUE, -700, -1, 15, 20, 700, 701, Integer.MAX_VALUE}) {
            Check.no("3: " + n + " of 14", x.end(n));
            Check.due("3: all there", x.look(9), 14);
        }
        Check.yes("3: as many as it has", x.end(14));
        Check.yes("3: fewer", x.end(9));
        Check.due("3: so many", x.look(9), 9);
        Check.no("3: what is gone is gone", x.end(10));
        Check.put(x, "paper b;");
        Check.due("3: what comes stands behind", x.book(), 2);
        Check.no("3: empty behind a BOOK", x.end(1));
        Check.due("3: a BOOK by the first bytes alone", bookOfFirst(9, "holder a;junk"), 1);
        Check.due("3: one byte less", bookOfFirst(8, "holder a;junk"), -1);
    }

    private static int bookOfFirst(int n, String text) {
        RecordClaims x = new RecordClaims();
        Check.put(x, text);
        x.end(n);
        return x.book();
    }

    private static void bookOf(String text, int lines, int fault, int place) {
        RecordClaims x = new RecordClaims();
        Check.due("book '" + text + "'", Check.book(x, text), lines);
        Check.due("fault of '" + text + "'", x.fault(0), fault);
        Check.due("place in '" + text + "'", x.fault(1), place);
        Check.due("THE TAPE is empty", x.look(9), 0);
    }

    private static void deedsOf(String text, int done, int fault, int place) {
        RecordClaims x = Check.with(THREE);
        Check.due("deeds '" + text + "'", Check.deeds(x, text), done);
        Check.due("fault of '" + text + "'", x.fault(0), fault);
        Check.due("place in '" + text + "'", x.fault(1), place);
        Check.due("THE TAPE is empty", x.look(9), 0);
        Check.due("to undo", x.look(8), done > 0 ? 1 : 0);
    }

    /** "letters a .. z", "digits", "Blanks (32, 10)": each of the 256 bytes. */
    private static void signsOfTexts() {
        for (char c = 0; c < 256; c++) {
            boolean isBlank = c == 32 || c == 10;
            boolean isLetter = c >= 'a' && c <= 'z';
            bookOf("holder" + c + "b;", isBlank ? 1 : -1, isBlank ? 0 : 1, isBlank ? -1 : isLetter ? 0 : 6);
            bookOf("holder x" + c + ";", isBlank || isLetter ? 1 : c == ';' ? -1 : -1, isBlank || isLetter ? 0 : 1,
                    isBlank || isLetter ? -1 : c == ';' ? 9 : 8);
            boolean isDigit = c >= '0' && c <= '9';
            boolean isGood = isBlank || isDigit;
            deedsOf("days 1" + c + ";", isGood ? 1 : -1, isGood ? 0 : 1, isGood ? -1 : c == ';' ? 7 : 6);
        }
        bookOf("\n \nholder\n\n a \n;\n", 1, 0, -1);
        bookOf("holder a;paper p;has a p5;", 3, 0, -1);
        bookOf("holder a;paper p;has ap 5;", -1, 2, 21);
    }

    /** "WORDS of 1 to 6 letters that are none of these"; "a WORD of more letters". */
    private static void wordsOf1To6Letters() {
        bookOf("holder a;", 1, 0, -1);
        bookOf("holder z;", 1, 0, -1);
        bookOf("holder abcdef;", 1, 0, -1);
        bookOf("holder zzzzzz;", 1, 0, -1);
        bookOf("holder abcdefg;", -1, 1, 7);
        bookOf("holder zzzzzzz;", -1, 1, 7);
        bookOf("holder aaaaaaaaaaaaaaaaaaaaaaaaaaaaaaaaaaaaaaaaaaaaaaaaaaaaaaaaaaaaaaaaaaaaa;", -1, 1, 7);
        // a longer WORD that has the letters of a shorter one at its end is another one
        bookOf("xxholder a;", -1, 1, 0);
        bookOf("aaaaaaaholder a;", -1, 1, 0);
        bookOf("holder aholder;", -1, 1, 7);
        for (String word : ("holder paper has trade within money gift rights turn into for at worth until plus cash ex record "
                + "pay choose days").split(" ")) {
            bookOf("holder " + word + ";", -1, 1, 7);
            bookOf("holder " + word.substring(1) + ";", 1, 0, -1);
            bookOf("paper q;paper " + word + ";", -1, 1, 14);
            if (word.length() < 6) {
                bookOf("holder " + word + "x;", 1, 0, -1);
                bookOf("paper x" + word + ";", 1, 0, -1);
            }
        }
        // "holder" and its like that the text does not name are NAMES
        for (String word : "holds buy sell to of on with split gifts right trades moneys day pays exx".split(" ")) {
            bookOf("holder " + word + ";", 1, 0, -1);
        }
    }

    /** "1 to 9 digits that stand together"; "an N of more digits". */
    private static void numbersOf1To9Digits() {
        String start = "holder a;paper p;has a p ";
        bookOf(start + "0;", 3, 0, -1);
        bookOf(start + "000000000;", 3, 0, -1);
        bookOf(start + "000100000;", 3, 0, -1);
        bookOf(start + "000100001;", -1, 3, 25);
        bookOf(start + "100000;", 3, 0, -1);
        bookOf(start + "100001;", -1, 3, 25);
        bookOf(start + "999999999;", -1, 3, 25);
        bookOf(start + "0000000000;", -1, 1, 25);
        bookOf(start + "9999999999;", -1, 1, 25);
        bookOf(start + "4294967296;", -1, 1, 25);
        bookOf(start + "4294967297;", -1, 1, 25);
        bookOf(start + "18446744073709551617;", -1, 1, 25);
        bookOf(start + "1 2;", -1, 1, 27);
        bookOf(start + "1\n2;", -1, 1, 27);
        deedsOf("days 000000001;", 1, 0, -1);
        deedsOf("days 0000000001;", -1, 1, 5);
        deedsOf("trade bo al p 000000001 000000000 within 000000009;", 1, 0, -1);
        deedsOf("trade bo al p 1 0000000000;", -1, 1, 16);
        deedsOf("choose 0 al 999999999 1000000000;", -1, 1, 22);
    }

    /** "THE TAPE (empty then, in any case) is a BOOK": { LINE ";" } may be none. */
    private static void emptyBook() {
        for (String text : new String[] {"", " ", "\n", " \n \n"}) {
            RecordClaims x = Check.with(THREE);
            Check.deeds(x, RICH);
            Check.due("4: no LINE", Check.book(x, text), 0);
            Check.due("4: no FAULT", x.fault(0), 0);
            Check.due("4: all there was is gone", Snapshot.of(x), Snapshot.of(new RecordClaims()));
            Check.due("4: nothing to undo", x.undo(), -1);
        }
    }

    /** "SHARES 0 .. 100000 in place of those it had". */
    private static void sharesInPlace() {
        String start = "holder a;holder b;paper p;paper q;";
        RecordClaims x = Check.with(start + "has a p 100000;has b q 100000;has a p 0;has b q 1;has a q 7;has a q 7;");
        Check.due("0 in place", x.has(0, 0), 0);
        Check.due("1 in place", x.has(1, 1), 1);
        Check.due("the same in place", x.has(0, 1), 7);
        Check.due("none told", x.has(1, 0), 0);
    }

    /** "in place of all there was (DAY 0, nothing to undo)": as if the object were new. */
    private static void bookInPlaceOfAll() {
        String[] books = {THREE, "holder a;paper b;has a b 5;", "holder a;holder c;paper b;",
            "paper a;paper b;paper c;paper d;paper e;holder f;has f e 9;"};
        for (String first : books) {
            for (String second : books) {
                RecordClaims x = Check.with(first);
                Check.deeds(x, first.equals(THREE) ? RICH : "days 5;");
                Check.book(x, second);
                Check.due("4: as a new one", Snapshot.of(x), Snapshot.of(Check.with(second)));
                Check.due("4: DAY 0", x.look(4), 0);
                Check.due("4: nothing to undo", x.look(8), 0);
                Check.due("4: nothing to undo", x.undo(), -1);
                Check.book(x, first);
                Check.deeds(x, first.equals(THREE) ? RICH : "days 5;");
                RecordClaims y = Check.with(first);
                Check.deeds(y, first.equals(THREE) ? RICH : "days 5;");
                Check.due("4: nothing is left over", Snapshot.of(x), Snapshot.of(y));
                Check.due("4: nor SHOWN otherwise", Check.shown(x, 0), Check.shown(y, 0));
            }
        }
    }

    /** "in place of all there was": nothing of any BOOK before, good or not, nor of what was done, comes back later. */
    private static void bookBehindBooks() {
        String[] between = {"", "holder x;paper y;has x y 8;", "holder x;paper y;has x y 8;paper", "holder x;paper p;has x p 8;has x p 100001;"};
        String bare = "holder al;holder bo;holder cy;paper p;paper q;";
        for (String first : between) {
            for (String second : between) {
                RecordClaims x = Check.with(THREE);
                Check.deeds(x, RICH);
                Check.book(x, first);
                Check.book(x, second);
                Check.due("4: lines", Check.book(x, bare), 5);
                RecordClaims y = Check.with(bare);
                Check.due("4: no SHARES of those before", Snapshot.of(x), Snapshot.of(y));
                for (String deed : RICH.replace("days 5", "days 1;days 1;days 1;days 1;days 1").split(";")) {
                    Check.due("4: " + deed, Check.deeds(x, deed + ";"), Check.deeds(y, deed + ";"));
                    Check.due("4: nothing of what was noted before, behind " + deed, Snapshot.of(x), Snapshot.of(y));
                }
            }
        }
    }

    /** NAMES of BOOKS before are none of what must stand there. */
    private static void namesOfBooksBefore() {
        RecordClaims x = new RecordClaims();
        for (int i = 0; i < 4; i++) {
            Check.due("4: a BOOK of many", Check.book(x, Full.NAMES), 15);
            Check.due("4: as many again", Check.book(x, Full.NAMES), 15);
            Check.due("4: of few", Check.book(x, "holder k;holder l;paper u;"), 3);
            if (i % 2 == 1) {
                Check.due("4: and again", Check.book(x, "holder k;holder l;paper u;"), 3);
            }
            for (String deed : new String[] {"trade c k u 1 1;", "trade j k u 1 1;", "trade j j q 1 1;"}) {
                Check.due("5: " + deed, Check.deeds(x, deed), -1);
                Check.due("5: " + deed, x.fault(0) * 100 + x.fault(1), 206);
            }
            Check.due("5: a PAPER", Check.deeds(x, "trade k l q 1 1;"), -1);
            Check.due("5: a PAPER", x.fault(0) * 100 + x.fault(1), 210);
            Check.due("4: none known", Check.book(x, "has k u 1;"), -1);
            Check.due("4: none known", x.fault(0) * 100 + x.fault(1), 204);
            Check.due("4: one known", Check.book(x, "holder k;has c u 1;"), -1);
            Check.due("4: one known", x.fault(0) * 100 + x.fault(1), 213);
            Check.due("4: none twice", Check.book(x, "holder a;holder c;paper j;paper q;paper p;"), 5);
            Check.due("4: of this one", x.look(0) * 10 + x.look(1), 23);
        }
    }

    /** Of ten HOLDERS, five PAPERS, sixty TRADES, eight EVENTS nothing is left. */
    private static void bookBehindAllThereCanBe() {
        RecordClaims x = Check.with(Full.book());
        for (int day = 0; day < 9; day++) {
            if (day < 5) {
                Full.tell(x, day);
            }
            x.days(1);
        }
        Check.due("4: a BOOK of no SHARES", Check.book(x, Full.NAMES), 15);
        Check.due("4: and another", Check.book(x, Full.NAMES), 15);
        RecordClaims y = Check.with(Full.NAMES);
        Check.due("4: as a new one", Snapshot.of(x), Snapshot.of(y));
        for (int day = 0; day < 5; day++) {
            Full.tell(x, day);
            Full.tell(y, day);
            Check.due("4: as of a new one", Snapshot.of(x), Snapshot.of(y));
            Check.due("4: a DAY", x.days(1), y.days(1));
        }
        Check.due("4: as of a new one", Snapshot.of(x), Snapshot.of(y));
    }

    /** "NONE with a FAULT (all stays)": NAMES, SHARES, what can be undone. */
    private static void bookWithAFault() {
        String[] bad = {"holder zz;paper yy;has zz yy 1", "holder k;holder k;", "holder zz;paper yy;has zz yy 100001;", "paper a",
            "holder a;holder b;holder c;holder d;paper p;paper q;paper r;has d r 77;;"};
        for (String text : bad) {
            RecordClaims x = Check.with("holder m;paper n;has m n 3;");
            Check.book(x, THREE);
            Check.deeds(x, RICH);
            String was = Snapshot.of(x);
            String shown = Check.shown(x, 2);
            Check.due("4: a FAULT", Check.book(x, text), -1);
            Check.due("4: again", Check.book(x, text), -1);
            Check.due("4: THE TAPE is empty", x.look(9), 0);
            Check.due("4: all stays", Snapshot.of(x), was);
            Check.due("4: it can be undone still", x.look(8), 1);
            Check.due("4: NAMES stay", Check.shown(x, 2), shown);
            Check.put(x, "bo");
            Check.due("4: NAMES stay", x.named(0), 1);
            Check.put(x, "zz");
            Check.due("4: none of the new ones", x.named(0), -1);
            Check.due("4: undone", x.undo(), 0);
            Check.due("4: as the BOOK told", Snapshot.of(x), Snapshot.of(Check.with(THREE)));
        }
    }

    /** Seven hundred bytes. */
    private static void fullBook() {
        StringBuilder text = new StringBuilder("holder a;paper b;");
        int lines = 2;
        while (text.length() + 10 <= 700) {
            text.append("has a b ").append(lines % 10).append(';');
            lines++;
        }
        Check.due("three bytes left", text.length(), 697);
        bookOf(text + "   ", lines, 0, -1);
        bookOf(text + "  ;", -1, 1, 699);
        bookOf(text + "has", -1, 1, 700);
        bookOf(text + "  h", -1, 1, 699);
    }

    /** "the end: its length". */
    private static void theEnd() {
        bookOf("holder", -1, 1, 6);
        bookOf("holder ", -1, 1, 7);
        bookOf("holder\n\n\n", -1, 1, 9);
        bookOf("holder a", -1, 1, 8);
        bookOf("holder a; paper b; has", -1, 1, 22);
        bookOf("holder a; paper b; has a", -1, 1, 24);
        bookOf("holder a; paper b; has a b ", -1, 1, 27);
        bookOf("holder a; paper b; has a b 7", -1, 1, 28);
        String deed = "trade bo al p 1 1 within 1";
        for (int n = 1; n <= deed.length(); n++) {
            boolean isCutInAWord = n < 5 || n == 6 + 1 || n == 9 + 1 || n > 18 && n < 24;
            if (!isCutInAWord) {
                deedsOf(deed.substring(0, n), -1, 1, n);
            }
        }
        for (String each : ("money p 4 ex 1 record 2 pay 4|gift p 1 for 3 cash 7 ex 6 record 6 pay 7|turn p into q 3 for 2 plus 5 "
                + "cash 11 record 12|rights q 2 for 1 at 5 worth 20 until 9 ex 7 record 8 pay 10|choose 0 al 3 4|days 2").split("\\|")) {
            for (int n = each.length(); n > 0; n = each.lastIndexOf(' ', n - 1)) {
                deedsOf(each.substring(0, n), -1, 1, n);
                deedsOf(each.substring(0, n) + " \n", -1, 1, n + 2);
            }
        }
    }

    /**
     * "what can't stand there (at it; a WORD of more letters, an N of more digits; the end: its length)": at each place
     * of each LINE and DEED. Behind "@" stands what must stand there: h a HOLDER, p a PAPER, n a new NAME, N, w the word, S the stop.
     */
    private static void whatCantStandThere() {
        for (String line : new String[] {"holder@w cc@n ;@S", "paper@w cc@n ;@S", "has@w aa@h bb@p 7@N ;@S"}) {
            eachPlace("holder aa;paper bb; ", line, true);
        }
        for (String deed : new String[] {"trade@w aa@h hh@h bb@p 5@N 6@N within@o 7@N ;@S", "money@w bb@p 4@N ex@w 1@N record@w 2@N pay@w 4@N ;@S",
            "gift@w bb@p 2@N for@w 3@N cash@w 7@N ex@w 1@N record@w 2@N pay@w 3@N ;@S",
            "rights@w bb@p 2@N for@w 1@N at@w 5@N worth@w 20@N until@w 3@N ex@w 2@N record@w 2@N pay@w 4@N ;@S",
            "turn@w bb@p into@w kk@p 3@N for@w 2@N plus@w 5@N cash@w 11@N record@w 7@N ;@S", "choose@w 2@N aa@h 30@N 40@N ;@S",
            "days@w 2@N ;@S"}) {
            eachPlace("days 1;", deed, false);
        }
    }

    private static void eachPlace(String ahead, String tokens, boolean isBook) {
        String[] tokenKinds = tokens.split(" ");
        StringBuilder text = new StringBuilder(ahead);
        for (int i = 0; i < tokenKinds.length; i++) {
            String[] each = tokenKinds[i].split("@");
            StringBuilder rest = new StringBuilder();
            for (int k = i + 1; k < tokenKinds.length; k++) {
                rest.append(' ').append(tokenKinds[k].split("@")[0]);
            }
            for (String bad : new String[] {"zz", "aa", "bb", "ex", "abcdefg", "holders", "tradess", "5", "1234567890", "0000000001",
                ";", "#", ",", "\0", "\t", "A", "\377", ""}) {
                int fault = faultOf(bad, each[1].charAt(0));
                boolean isEndOfAll = i == 0 && bad.isEmpty();
                if (fault != 0 && !bad.equals(each[0]) && !isEndOfAll) {
                    oneFault(text + bad + (bad.isEmpty() ? "" : rest), isBook, fault, text.length());
                }
            }
            text.append(each[0]).append(' ');
        }
    }

    private static int faultOf(String bad, char must) {
        boolean isName = bad.equals("zz") || bad.equals("aa") || bad.equals("bb");
        switch (must) {
            case 'h':
                return bad.equals("aa") ? 0 : isName ? 2 : 1;
            case 'p':
                return bad.equals("bb") ? 0 : isName ? 2 : 1;
            case 'n':
                return bad.equals("zz") ? 0 : isName ? 2 : 1;
            case 'N':
                return bad.equals("5") ? 0 : 1;
            case 'o':
                return bad.equals(";") ? 0 : 1;
            case 'S':
                return bad.equals(";") ? 0 : 1;
            default:
                return 1;
        }
    }

    private static void oneFault(String text, boolean isBook, int fault, int place) {
        RecordClaims x = Check.with("holder aa;holder hh;paper bb;paper kk;has aa bb 9;");
        Check.due("'" + text + "'", isBook ? Check.book(x, text) : Check.deeds(x, text), -1);
        Check.due("fault of '" + text + "'", x.fault(0), fault);
        Check.due("place in '" + text + "'", x.fault(1), place);
        Check.due("all stays", x.has(0, 0) * 10 + x.look(4), 90);
    }

    /** What a text tells is what the call tells. */
    private static void byTextAsByCall() {
        RecordClaims x = Check.with(THREE);
        RecordClaims y = Check.with(THREE);
        Check.due("trade", Check.deeds(x, "trade bo al p 10 50 within 3;trade cy al p 7 9;"), 2);
        y.trade(1, 0, 0, 10, 50, 3);
        y.trade(2, 0, 0, 7, 9, 2);
        Check.due("trade", Snapshot.of(x), Snapshot.of(y));
        Check.due("money", Check.deeds(x, "money p 4 ex 1 record 2 pay 4;"), 1);
        y.money(0, 4, 1, 2, 4);
        Check.due("money", Snapshot.of(x), Snapshot.of(y));
        Check.due("gift", Check.deeds(x, "gift p 2 for 3 cash 7 ex 2 record 3 pay 5;"), 1);
        y.gift(0, 23, 7, 2, 3, 5);
        Check.due("gift", Snapshot.of(x), Snapshot.of(y));
        Check.due("rights", Check.deeds(x, "rights p 3 for 2 at 5 worth 20 until 4 ex 2 record 3 pay 6;"), 1);
        y.rights(0, 32, 5020, 4, 2, 3, 6);
        Check.due("rights", Snapshot.of(x), Snapshot.of(y));
        Check.due("turn", Check.deeds(x, "turn q into p 3 for 7 plus 6 cash 11 record 7;"), 1);
        y.turn(1, 0, 37, 6011, 7);
        Check.due("turn", Snapshot.of(x), Snapshot.of(y));
        Check.due("choose", Check.deeds(x, "choose 2 al 4 5;choose 2 bo 999999999 0;choose 2 cy 0 999999999;"), 3);
        y.choose(2, 0, 4, 5);
        y.choose(2, 1, 999999999, 0);
        y.choose(2, 2, 0, 999999999);
        for (int day = 1; day <= 8; day++) {
            Check.due("as by call", Snapshot.of(x), Snapshot.of(y));
            Check.due("days", Check.deeds(x, "days 1;"), 1);
            y.days(1);
        }
        Check.due("as by call", Snapshot.of(x), Snapshot.of(y));
    }

    /** "Of one place the least." */
    private static void ofOnePlaceTheLeast() {
        // a WORD too long, or one of the others, is no NAME: 1, not 2
        bookOf("holder a;paper b;has zzzzzzz b 1;", -1, 1, 21);
        bookOf("holder a;paper b;has pay b 1;", -1, 1, 21);
        bookOf("holder a;paper b;has a 5 1;", -1, 1, 23);
        deedsOf("trade zzzzzzz al p 1 1;", -1, 1, 6);
        deedsOf("trade days al p 1 1;", -1, 1, 6);
        // an N too long can't be either: 1, not 3
        bookOf("holder a;paper b;has a b 1000000;", -1, 3, 25);
        bookOf("holder a;paper b;has a b 1000000000;", -1, 1, 25);
    }

    /** "as they are met from the left". */
    private static void firstFromTheLeft() {
        bookOf("holder a;paper b;has z z 100001", -1, 2, 21);
        bookOf("holder a;paper b;has a z 100001", -1, 2, 23);
        bookOf("holder a;paper b;has a b 100001", -1, 3, 25);
        bookOf("holder a;paper b;has a b 100001 holder holder", -1, 3, 25);
        bookOf("holder a;holder a holder", -1, 2, 16);
        bookOf("holder a;; holder a;", -1, 1, 9);
        bookOf("holder a;holder a;has b b 100001;;", -1, 2, 16);
        deedsOf("trade zz zz zz;", -1, 2, 6);
        deedsOf("trade bo zz zz;", -1, 2, 9);
        deedsOf("trade bo al zz;", -1, 2, 12);
        deedsOf("days 1000;trade zz;", -1, 2, 16);
        deedsOf("days 1; days 0; foo", -1, 1, 16);
    }

    /** "4 the 11th HOLDER, the 6th PAPER (at "holder", "paper")". */
    private static void eleventhAndSixth() {
        StringBuilder ten = new StringBuilder();
        for (char c = 'a'; c < 'k'; c++) {
            ten.append("holder ").append(c).append(';');
        }
        bookOf(ten.toString(), 10, 0, -1);
        bookOf(ten + "holder k;", -1, 4, 90);
        bookOf(ten + " \nholder a;", -1, 4, 92);
        bookOf(ten + "holder", -1, 4, 90);
        bookOf(ten + "holder;", -1, 4, 90);
        bookOf(ten + "holder pay", -1, 4, 90);
        bookOf(ten + "holderk;", -1, 1, 90);
        bookOf(ten + "paper k;has j k 5;", 12, 0, -1);
        bookOf(ten + ";holder k;", -1, 1, 90);
        String five = "paper v;paper w;paper x;paper y;paper z;";
        bookOf(five, 5, 0, -1);
        bookOf(five + "paper u;", -1, 4, 40);
        bookOf(five + "paper v;", -1, 4, 40);
        bookOf(five + "paper", -1, 4, 40);
        bookOf(five + "holder a;has a z 5;", 7, 0, -1);
        bookOf(five + ten + "has a v 1;has j z 100000;", 17, 0, -1);
        bookOf(five + ten + "has a v 1;paper u;", -1, 4, 140);
        bookOf(five + ten + "has a v 1 paper u;", -1, 1, 140);
        RecordClaims x = Check.with(five + ten + "has a v 1;has j z 100000;");
        Check.due("HOLDER 9", x.has(9, 4), 100000);
        Check.due("HOLDER 10", x.has(10, 4), -1);
        Check.due("PAPER 5", x.has(9, 5), -1);
        Check.put(x, "j");
        Check.due("numbered as they come", x.named(0), 9);
        Check.put(x, "z");
        Check.due("numbered as they come", x.named(1), 4);
    }

    /** "deeds() above 0": none are no deed. */
    private static void emptyDeeds() {
        for (String text : new String[] {"", " ", "\n \n"}) {
            RecordClaims x = Check.with(THREE);
            x.days(1);
            String was = Snapshot.of(x);
            Check.due("5: none", Check.deeds(x, text), 0);
            Check.due("5: no FAULT", x.fault(0), 0);
            Check.due("5: THE TAPE is empty", x.look(9), 0);
            Check.due("5: nothing done", Snapshot.of(x), was);
            Check.due("5: not to be undone", x.look(8), 1);
        }
    }

    /** "done up to the first that can't be: how many". */
    private static void deedsUpToTheFirst() {
        for (int good = 0; good <= 4; good++) {
            StringBuilder text = new StringBuilder();
            for (int i = 0; i < good; i++) {
                text.append("days 2;");
            }
            RecordClaims x = Check.with(THREE);
            Check.due("5: up to it", Check.deeds(x, text + "trade al al p 1 1;days 7;trade bo al p 1 1;"), good);
            Check.due("5: no FAULT", x.fault(0), 0);
            Check.due("5: none behind it", x.look(4), 2 * good);
            Check.due("5: none behind it", x.look(2), 0);
            Check.due("5: THE TAPE is empty", x.look(9), 0);
            Check.due("5: to be undone, above 0", x.look(8), good > 0 ? 1 : 0);
            Check.due("5: undone at once", x.undo(), good > 0 ? 0 : -1);
            Check.due("5: as it was", Snapshot.of(x), Snapshot.of(Check.with(THREE)));
        }
    }

    /** "all are read ahead"; "NONE with a FAULT (none is done)". */
    private static void deedsWithAFault() {
        for (String text : new String[] {"days 1;days", "days 1;days 1;days 1;foo;", "days 0;foo;", "trade bo al p 1 1;trade bo al p 1",
            "days 1;trade bo al p 1 1;;", "days 1;trade bo al x 1 1;", "days 1;choose 0 p 1 1;"}) {
            RecordClaims x = Check.with(THREE);
            Check.deeds(x, RICH);
            String was = Snapshot.of(x);
            Check.due("5: a FAULT", Check.deeds(x, text), -1);
            Check.due("5: THE TAPE is empty", x.look(9), 0);
            Check.due("5: none is done", Snapshot.of(x), was);
            Check.due("5: not to be undone", x.look(8), 1);
        }
    }

    /** What a deed does stands for those behind it; NAMES are those of the BOOK. */
    private static void deedsSeeOneAnother() {
        RecordClaims x = Check.with(THREE);
        Check.due("5: an EVENT ahead", Check.deeds(x, "choose 0 al 1 1;rights p 1 for 1 at 1 worth 1 until 2 ex 1 record 2 pay 2;"), 0);
        Check.due("5: an EVENT told", Check.deeds(x, "rights p 1 for 1 at 1 worth 1 until 2 ex 1 record 2 pay 3;choose 0 al 7 8;"
                + "choose 1 al 1 1;"), 2);
        Check.due("5: chosen", x.written(0, 0, 2) * 10 + x.written(0, 0, 3), 78);
        Check.due("5: in UNTIL", Check.deeds(x, "days 2;choose 0 al 1 2;days 1;choose 0 al 3 4;"), 3);
        Check.due("5: chosen", x.written(0, 0, 2) * 10 + x.written(0, 0, 3), 12);
        Check.due("5: by the DAY that it is then", Check.deeds(x, "money p 1 ex 4 record 4 pay 4;days 1;money p 1 ex 4 record 4 pay 4;"), 2);
        StringBuilder text = new StringBuilder();
        for (int i = 0; i < 32; i++) {
            text.append("trade bo al p 1 0;");
        }
        Check.due("5: TRADES 0 .. 31", Check.deeds(x, text.toString()), 32);
        Check.due("5: up to the 60th", Check.deeds(x, text.toString()), 28);
        Check.due("5: 60", x.look(2), 60);
    }

    private static void can(String deed, boolean isPossible) {
        RecordClaims x = Check.with(THREE);
        x.days(4);
        String was = Snapshot.of(x);
        Check.due("deeds '" + deed + "'", Check.deeds(x, deed), isPossible ? 1 : 0);
        Check.due("no FAULT in '" + deed + "'", x.fault(0), 0);
        Check.due("to undo", x.look(8), isPossible ? 2 : 1);
        Check.yes("done, or all stays", isPossible != was.equals(Snapshot.of(x)));
    }

    private static void bound(String deed, int least, int most) {
        String[] parts = deed.split("#");
        can(parts[0] + least + parts[1], true);
        can(parts[0] + most + parts[1], true);
        can(parts[0] + (most + 1) + parts[1], false);
        if (least > 0) {
            can(parts[0] + (least - 1) + parts[1], false);
            can(parts[0] + 0 + parts[1], false);
        }
        if (most < 999999999) {
            can(parts[0] + 999999999 + parts[1], false);
        }
    }

    /** Each N of DEEDS, told in DAY 4: the least, the most, one less, one more. */
    private static void boundsByText() {
        bound("trade bo al p # 1;", 1, 100000);
        bound("trade bo al p 1 #;", 0, 99999999);
        bound("trade bo al p 1 1 within #;", 1, 9);
        bound("money p # ex 5 record 5 pay 5;", 1, 999);
        bound("money p 1 ex # record 7 pay 9;", 5, 7);
        bound("money p 1 ex 5 record # pay 9;", 5, 9);
        bound("money p 1 ex 5 record 7 pay #;", 7, 999);
        bound("gift p # for 1 cash 1 ex 5 record 5 pay 5;", 1, 9);
        bound("gift p 1 for # cash 1 ex 5 record 5 pay 5;", 1, 9);
        bound("gift p 1 for 1 cash # ex 5 record 5 pay 5;", 0, 999);
        bound("gift p 1 for 1 cash 1 ex # record 7 pay 9;", 5, 7);
        bound("gift p 1 for 1 cash 1 ex 5 record # pay 9;", 5, 9);
        bound("gift p 1 for 1 cash 1 ex 5 record 7 pay #;", 7, 999);
        bound("rights p # for 1 at 1 worth 1 until 5 ex 5 record 5 pay 5;", 1, 9);
        bound("rights p 1 for # at 1 worth 1 until 5 ex 5 record 5 pay 5;", 1, 9);
        bound("rights p 1 for 1 at # worth 1 until 5 ex 5 record 5 pay 5;", 0, 999);
        bound("rights p 1 for 1 at 1 worth # until 5 ex 5 record 5 pay 5;", 0, 999);
        bound("rights p 1 for 1 at 1 worth 1 until # ex 5 record 7 pay 9;", 7, 9);
        bound("rights p 1 for 1 at 1 worth 1 until 9 ex # record 7 pay 9;", 5, 7);
        bound("rights p 1 for 1 at 1 worth 1 until 9 ex 5 record # pay 9;", 5, 9);
        bound("rights p 1 for 1 at 1 worth 1 until 7 ex 5 record 7 pay #;", 7, 999);
        bound("turn p into q # for 1 plus 1 cash 1 record 5;", 1, 9);
        bound("turn p into q 1 for # plus 1 cash 1 record 5;", 1, 9);
        bound("turn p into q 1 for 1 plus # cash 1 record 5;", 0, 999);
        bound("turn p into q 1 for 1 plus 1 cash # record 5;", 0, 999);
        bound("turn p into q 1 for 1 plus 1 cash 1 record #;", 5, 999);
        bound("days #;", 1, 99);
        can("trade al al p 1 1;", false);
        can("turn q into q 1 for 1 plus 1 cash 1 record 5;", false);
        can("turn q into p 1 for 1 plus 1 cash 1 record 5;", true);
        can("trade bo al p 1 1;", true);
    }

    /** "Of the latest book(), deeds() what 0 its FAULT (0 without), 1 its place (NONE)." */
    private static void faultOfTheLatest() {
        RecordClaims x = new RecordClaims();
        fault(x, "6: none yet", 0, -1);
        Check.book(x, "holder");
        fault(x, "6: of a BOOK", 1, 6);
        x.trade(0, 1, 0, 1, 1, 1);
        x.days(1);
        x.undo();
        x.show(0);
        Check.put(x, "foo;");
        fault(x, "6: of the latest one still", 1, 6);
        x.named(0);
        fault(x, "6: a NAME is none", 1, 6);
        x.deeds();
        fault(x, "6: of no DEEDS", 0, -1);
        Check.deeds(x, " trade zz");
        fault(x, "6: of DEEDS", 2, 7);
        Check.book(x, THREE);
        fault(x, "6: of a good BOOK", 0, -1);
        Check.deeds(x, "days");
        Check.deeds(x, "days 0;");
        fault(x, "6: of DEEDS that can't be", 0, -1);
        Check.deeds(x, ";");
        Check.deeds(x, "days 1;");
        fault(x, "6: of good DEEDS", 0, -1);
        for (int what : FAR) {
            Check.due("6: another what", x.fault(what), -1);
        }
        Check.due("6: another what", x.fault(2), -1);
    }

    private static void fault(RecordClaims x, String what, int fault, int place) {
        Check.due(what, x.fault(0), fault);
        Check.due(what, x.fault(1), place);
        Check.due(what, x.fault(2), -1);
        Check.due(what, x.fault(-1), -1);
    }

    /** "of each PAPER of which it has SHARES"; "NONE if there is none such". */
    private static void statements() {
        RecordClaims x = Check.with("holder a;holder bcdefg;paper p;paper q;paper r;paper s;paper tuvwxy;has a q 1;has a tuvwxy 1;"
                + "has bcdefg p 100000;has bcdefg q 99999;has bcdefg r 1000;has bcdefg s 999;has bcdefg tuvwxy 10;");
        Check.due("30: one SHARE each", Check.shown(x, 0), "a: 1 q, 1 tuvwxy, 0.");
        Check.due("30: of all PAPERS", Check.shown(x, 1), "bcdefg: 100000 p, 99999 q, 1000 r, 999 s, 10 tuvwxy, 0.");
        String was = Snapshot.ofRest(x);
        for (int h : FAR) {
            Check.due("30: none such", x.show(h), -1);
        }
        Check.due("30: none such", x.show(2), -1);
        Check.due("30: none such", x.show(9), -1);
        Check.due("30: what was SHOWN stays", Snapshot.ofRest(x), was);
        x.trade(0, 1, 0, 100000, 1, 1);
        x.days(1);
        Check.due("30: it is what it was then", Snapshot.ofRest(x).substring(1), was.replaceFirst("^0", "2").substring(1));
        Check.due("30: none of p", Check.shown(x, 1), "bcdefg: 99999 q, 1000 r, 999 s, 10 tuvwxy, 1.");
        x = Check.with("holder a;");
        Check.due("30: no PAPER", Check.shown(x, 0), "a: 0.");
        // what was SHOWN of a HOLDER whose BOOK is gone
        Check.book(x, "paper p;");
        Check.due("30: the latest", x.out(0), 'a');
        Check.due("30: nobody", x.show(0), -1);
    }

    /** Each length of a number, above and below 0. */
    private static void statementNumbers() {
        int[] amounts = {0, 1, 9, 10, 11, 89, 90, 99, 100, 101, 999, 1000, 8999, 9000, 9999, 10000, 99999, 100000, 999999, 1000000,
            9999999, 10000000, 99999999};
        for (int amount : amounts) {
            RecordClaims x = Check.with("holder a;holder b;paper p;has a p 1;");
            x.trade(1, 0, 0, 1, amount, 1);
            x.days(1);
            Check.due("30: MONEY", Check.shown(x, 0), "a: " + amount + ".");
            Check.due("30: MONEY", Check.shown(x, 1), "b: 1 p, " + -amount + ".");
        }
        for (int n : new int[] {1, 9, 10, 19, 90, 99, 100, 999, 1000, 9999, 10000, 99999, 100000}) {
            RecordClaims x = Check.with("holder a;paper p;has a p " + n + ";");
            Check.due("30: SHARES", Check.shown(x, 0), "a: " + n + " p, 0.");
        }
    }

    /** "The i-th byte of what was SHOWN latest. NONE if there is none such." */
    private static void outs() {
        RecordClaims x = Check.with("holder long;holder b;paper p;has long p 12345;");
        Check.due("31: nothing SHOWN yet", x.out(0), -1);
        Check.due("31: bytes", x.show(0), 17);
        Check.due("31: the first", x.out(0), 'l');
        Check.due("31: the last", x.out(16), '.');
        Check.due("31: behind the last", x.out(17), -1);
        Check.due("31: fewer bytes", x.show(1), 5);
        Check.due("31: the first", x.out(0), 'b');
        Check.due("31: the last", x.out(4), '.');
        for (int i = 5; i < 17; i++) {
            Check.due("31: none of the longer one", x.out(i), -1);
        }
        for (int i : FAR) {
            Check.due("31: none such", x.out(i), -1);
        }
        for (int i = 299; i < 302; i++) {
            Check.due("31: none such", x.out(i), -1);
        }
    }

    private static int named(RecordClaims x, String text, int what) {
        x.end(0);
        Check.put(x, text);
        int answer = x.named(what);
        Check.due("32: THE TAPE is empty", x.look(9), 0);
        return answer;
    }

    /** "whose NAME stands on THE TAPE (empty then) alone, blanks aside. NONE if there is none." */
    private static void namedAlone() {
        RecordClaims x = Check.with("holder a;holder bcdefg;paper p;paper qrstuv;");
        Check.due("32: the first", named(x, "a", 0), 0);
        Check.due("32: six letters", named(x, "bcdefg", 0), 1);
        Check.due("32: the first", named(x, "p", 1), 0);
        Check.due("32: six letters", named(x, "\nqrstuv\n ", 1), 1);
        for (String none : new String[] {"", " ", "b", "bcdef", "abcdefg", "bcdefga", "aa", "a a", "a;", ";a", "a1", "1a", "1", ";",
            "a p", "A", "a\t", "holder", "holder a", "holder a;", "days", "\341"}) {
            Check.due("32: no HOLDER '" + none + "'", named(x, none, 0), -1);
            Check.due("32: no PAPER '" + none + "'", named(x, none, 1), -1);
        }
        Check.due("32: a PAPER's", named(x, "p", 0), -1);
        Check.due("32: a HOLDER's", named(x, "a", 1), -1);
        for (int what : FAR) {
            Check.due("32: another what", named(x, "a", what), -1);
        }
        Check.due("32: another what", named(x, "a", 2), -1);
        Check.book(x, "holder b;");
        Check.due("32: of the BOOK before", named(x, "a", 0), -1);
        Check.due("32: of the BOOK before", named(x, "p", 1), -1);
        Check.due("32: of this BOOK", named(x, "b", 0), 0);
        StringBuilder blanks = new StringBuilder();
        while (blanks.length() < 699) {
            blanks.append(' ');
        }
        Check.due("32: a full TAPE", named(x, blanks + "b", 0), 0);
        Check.due("32: a full TAPE", named(x, "b" + blanks, 0), 0);
    }

    /** "NONE for another what." */
    private static void looks() {
        RecordClaims x = Check.with(THREE);
        for (int what : FAR) {
            Check.due("33: another what", x.look(what), -1);
        }
        Check.due("33: another what", x.look(10), -1);
        x.trade(1, 0, 0, 200, 1, 2);
        for (int day = 0; day <= 5; day++) {
            Check.due("33: OPEN", x.look(5), 1);
            Check.due("33: beyond the DAY in which it is DUE", x.look(6), day > 2 ? 1 : 0);
            Check.due("33: DAY", x.look(4), day);
            x.days(1);
        }
        for (int i = 0; i < 9; i++) {
            x.choose(0, 0, 0, 0);
            Check.due("33: what can be undone", x.look(8), 6);
        }
        x = Check.with(THREE);
        for (int day = 0; day < 999; day += 27) {
            x.days(27);
        }
        Check.due("33: DAY 999", x.look(4), 999);
        x.trade(1, 0, 0, 1, 1, 9);
        Check.due("33: OPEN, DUE beyond 999", x.look(5), 1);
        Check.due("33: not beyond its DAY", x.look(6), 0);
    }
}
