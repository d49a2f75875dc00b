import java.util.ArrayList;
import java.util.Arrays;
import java.util.List;

/** Sentences of the document that name an edge: deeds by call, what a DAY does, undoing (the terms, promises 7 to 14). */
public final class DeedEdgeTest {
    private static final String THREE = "holder al;holder bo;holder cy;paper p;paper q;has al p 100;has bo p 7;has cy q 30;";
    private static final String TWO = "holder a;holder b;paper p;paper q;";
    private static final int[] FAR = {Integer.MIN_VALUE, Integer.MIN_VALUE + 1, -1000000, -1000, -1, 100001, 1000000, 100000000,
        1000000000, Integer.MAX_VALUE - 998, Integer.MAX_VALUE - 1, Integer.MAX_VALUE};

    private interface Call {
        long on(RecordClaims x, int[] v);
    }

    private static final Call TRADE = (x, v) -> x.trade(v[0], v[1], v[2], v[3], v[4], v[5]);
    private static final Call MONEY = (x, v) -> x.money(v[0], v[1], v[2], v[3], v[4]);
    private static final Call GIFT = (x, v) -> x.gift(v[0], v[1], v[2], v[3], v[4], v[5]);
    private static final Call RIGHTS = (x, v) -> x.rights(v[0], v[1], v[2], v[3], v[4], v[5], v[6]);
    private static final Call TURN = (x, v) -> x.turn(v[0], v[1], v[2], v[3], v[4]);
    private static final Call CHOOSE = (x, v) -> x.choose(v[0], v[1], v[2], v[3]) ? 0 : -1;
    private static final Call DAYS = (x, v) -> x.days(v[0]);

    public static void main(String[] args) {
        tradeEdges();
        moneyEdges();
        giftEdges();
        rightsEdges();
        turnEdges();
        chooseEdges();
        daysEdges();
        ratios();
        pricesByTurn();
        sixtyAndEight();
        lastDays();
        settlesWithAsMany();
        settlesByNumbers();
        settlesDueByThen();
        toldAboutEx();
        settledAboutRecord();
        eventsInOneDay();
        turnsWithoutAPart();
        turnsTrades();
        turnsThereAndBack();
        turnsTradesOfMany();
        turnsDropLaterOnes();
        dropsWhateverItsPay();
        toldBehindATurn();
        paysWithAsMany();
        paysNothing();
        triesBehindAll();
        triesOnceADay();
        rightsAtMost();
        rightsOfClaims();
        wantingOnes();
        ofManyWanting();
        undoesAllThereCanBe();
        fullHouse();
        choosesUntil();
        undoesSix();
        undoesNothingElse();
        undoesAll();
        Check.end("DeedEdgeTest");
    }

    private static RecordClaims inDay4() {
        RecordClaims x = Check.with(THREE);
        x.rights(0, 11, 5006, 8, 6, 7, 9);
        x.trade(1, 0, 0, 3, 4, 2);
        x.days(4);
        return x;
    }

    /** One call in DAY 4: it is done and can be undone, or nothing at all is another than before. */
    private static void one(String what, Call call, boolean isPossible, int... v) {
        RecordClaims x = inDay4();
        String was = Snapshot.of(x);
        String rest = Snapshot.ofRest(x);
        String run = what + " " + Arrays.toString(v);
        long answer = call.on(x, v);
        Check.yes(run + " answered " + answer, isPossible != (answer == -1));
        if (isPossible) {
            Check.due(run + " to undo", x.look(8), 4);
            Check.due(run + " undone", x.undo(), 3);
        }
        Check.due(run + " all as it was", Snapshot.of(x), was);
        Check.due(run + " all as it was", Snapshot.ofRest(x), rest);
    }

    /** The k-th number of a call: the least, the most, one less, one more, and far beyond. */
    private static void edge(String what, Call call, int[] base, int k, int least, int most) {
        List<Integer> tries = new ArrayList<>(Arrays.asList(least, most, least - 1, most + 1));
        for (int far : FAR) {
            if (far < least || far > most) {
                tries.add(far);
            }
        }
        for (int n : tries) {
            int[] v = base.clone();
            v[k] = n;
            one(what, call, n >= least && n <= most, v);
        }
    }

    private static void tradeEdges() {
        int[] base = {0, 1, 0, 5, 6, 2};
        one("7: trade", TRADE, true, base);
        edge("7: who buys", TRADE, new int[] {0, 2, 0, 5, 6, 2}, 0, 0, 1);
        edge("7: who buys", TRADE, new int[] {0, 0, 0, 5, 6, 2}, 0, 1, 2);
        edge("7: who sells", TRADE, base, 1, 1, 2);
        edge("7: who sells", TRADE, new int[] {2, 0, 0, 5, 6, 2}, 1, 0, 1);
        edge("7: PAPER", TRADE, base, 2, 0, 1);
        edge("7: SHARES", TRADE, base, 3, 1, 100000);
        edge("7: AMOUNT", TRADE, base, 4, 0, 99999999);
        edge("7: within", TRADE, base, 5, 1, 9);
        for (int h = 0; h < 3; h++) {
            one("7: another one", TRADE, false, h, h, 0, 5, 6, 2);
        }
    }

    private static void moneyEdges() {
        int[] base = {0, 5, 6, 7, 9};
        edge("8: PAPER", MONEY, base, 0, 0, 1);
        edge("8: c", MONEY, base, 1, 1, 999);
        edge("8: EX beyond DAY", MONEY, base, 2, 5, 7);
        edge("8: RECORD from EX on", MONEY, base, 3, 6, 9);
        edge("8: PAY from RECORD on", MONEY, base, 4, 7, 999);
        one("8: all in one DAY", MONEY, true, 0, 1, 5, 5, 5);
        one("8: all in the last DAY", MONEY, true, 0, 1, 999, 999, 999);
        one("8: behind the last DAY", MONEY, false, 0, 1, 1000, 1000, 1000);
        one("8: all now", MONEY, false, 0, 1, 4, 4, 4);
        one("8: all that is", MONEY, false, 0, 1, Integer.MAX_VALUE, Integer.MAX_VALUE, Integer.MAX_VALUE);
    }

    private static void giftEdges() {
        int[] base = {0, 11, 5, 6, 7, 9};
        edge("9: PAPER", GIFT, base, 0, 0, 1);
        edge("9: CASH", GIFT, base, 2, 0, 999);
        edge("9: EX", GIFT, base, 3, 5, 7);
        edge("9: RECORD", GIFT, base, 4, 6, 9);
        edge("9: PAY", GIFT, base, 5, 7, 999);
    }

    private static void rightsEdges() {
        int[] base = {0, 11, 5006, 8, 6, 7, 9};
        edge("10: PAPER", RIGHTS, base, 0, 0, 1);
        edge("10: prices", RIGHTS, base, 2, 0, 999999);
        edge("10: UNTIL", RIGHTS, base, 3, 7, 9);
        edge("10: EX", RIGHTS, base, 4, 5, 7);
        edge("10: RECORD", RIGHTS, base, 5, 6, 8);
        edge("10: PAY", RIGHTS, base, 6, 8, 999);
        one("10: UNTIL in the last DAY", RIGHTS, true, 0, 11, 0, 999, 999, 999, 999);
        one("10: UNTIL behind it", RIGHTS, false, 0, 11, 0, 1000, 999, 999, 999);
        one("10: all in one DAY", RIGHTS, true, 0, 11, 0, 5, 5, 5, 5);
        one("10: worth of a thousand", RIGHTS, true, 0, 11, 1000, 5, 5, 5, 5);
        one("10: worth below 0", RIGHTS, false, 0, 11, -999, 5, 5, 5, 5);
    }

    private static void turnEdges() {
        int[] base = {0, 1, 11, 5006, 7};
        edge("11: PAPER", TURN, base, 0, 0, 0);
        edge("11: the other PAPER", TURN, base, 1, 1, 1);
        edge("11: PAPER", TURN, new int[] {1, 0, 11, 5006, 7}, 0, 1, 1);
        edge("11: prices", TURN, base, 3, 0, 999999);
        edge("11: RECORD beyond DAY", TURN, base, 4, 5, 999);
        one("11: into itself", TURN, false, 0, 0, 11, 0, 7);
        one("11: into itself", TURN, false, 1, 1, 11, 0, 7);
        one("11: CASH below 0", TURN, false, 0, 1, 11, -999, 7);
    }

    private static void chooseEdges() {
        int[] base = {0, 1, 5, 6};
        one("12: choose", CHOOSE, true, base);
        edge("12: EVENT", CHOOSE, base, 0, 0, 0);
        edge("12: HOLDER", CHOOSE, base, 1, 0, 2);
        edge("12: to take", CHOOSE, base, 2, 0, 999999999);
        edge("12: to sell", CHOOSE, base, 3, 0, 999999999);
        one("12: 0, 0", CHOOSE, true, 0, 0, 0, 0);
    }

    private static void daysEdges() {
        edge("13: n", DAYS, new int[] {1}, 0, 1, 99);
        one("13: none", DAYS, false, 0);
        for (int n = 1; n <= 99; n++) {
            RecordClaims x = new RecordClaims();
            Check.due("13: which it is", x.days(n), n);
            Check.due("13: and again", x.days(n), 2 * n);
        }
    }

    /** "a and b as ten times a and b": 1 .. 9 each. */
    private static void ratios() {
        RecordClaims x = inDay4();
        for (int ab = -1200; ab <= 1200; ab++) {
            boolean isPossible = ab >= 11 && ab <= 99 && ab % 10 != 0;
            long want = isPossible ? 1 : -1;
            Check.due("9: ab " + ab, x.gift(0, ab, 5, 6, 7, 9), want);
            if (isPossible) {
                long a = ab / 10;
                long b = ab % 10;
                Check.due("9: b by a and b", x.worth(1, 9000, 0) * (a + b), 9000 * b * x.worth(1, 9000, 1));
                x.undo();
            }
            Check.due("10: ab " + ab, x.rights(0, ab, 5006, 8, 6, 7, 9), want);
            if (isPossible) {
                x.undo();
            }
            Check.due("11: ab " + ab, x.turn(0, 1, ab, 5006, 7), want);
            if (isPossible) {
                x.undo();
            }
        }
        for (int far : FAR) {
            Check.due("9: ab " + far, x.gift(0, far, 5, 6, 7, 9), -1);
            Check.due("10: ab " + far, x.rights(0, far, 5006, 8, 6, 7, 9), -1);
            Check.due("11: ab " + far, x.turn(0, 1, far, 5006, 7), -1);
        }
    }

    /** "c and CASH as a thousand times c and CASH"; of RIGHTS price and worth. */
    private static void pricesByTurn() {
        int[] each = {0, 1, 9, 10, 99, 100, 998, 999};
        for (int first : each) {
            for (int second : each) {
                RecordClaims x = Check.with(TWO + "has a p 3;");
                x.turn(0, 1, 12, first * 1000 + second, 1);
                x.rights(1, 11, first * 1000 + second, 3, 2, 2, 3);
                x.choose(1, 0, 0, 1);
                x.days(1);
                Check.due("11: c, and half of CASH", x.purse(0), 3 * first + second / 2);
                Check.due("10: the price", x.worth(1, 1, 0) * 2, (1 + first) * x.worth(1, 1, 1));
                x.days(2);
                Check.due("10: the worth", x.purse(0), 3 * first + second / 2 + second);
            }
        }
    }

    /** "or there are 60"; "or there are 8": of all kinds, PAID and DROPPED ones too. */
    private static void sixtyAndEight() {
        RecordClaims x = Check.with(THREE);
        for (int i = 0; i < 60; i++) {
            Check.due("7: numbered as they come", x.trade(i % 2, 1 - i % 2, 0, 1, 0, 1), i);
        }
        x.days(2);
        String was = Snapshot.of(x);
        Check.due("7: there are 60", x.trade(1, 0, 0, 1, 0, 1), -1);
        Check.due("7: there are 60", Check.deeds(x, "trade bo al p 1 1;"), 0);
        Check.due("7: nothing is done", Snapshot.of(x), was);
        x = Check.with(THREE);
        for (int i = 0; i < 6; i++) {
            Check.due("8: numbered as they come", x.money(0, 1, 1, 1 + i, 6), i);
        }
        Check.due("11: numbered as they come", x.turn(0, 1, 11, 0, 2), 6);
        x.days(5);
        Check.due("5 are DROPPED", x.event(5, 5), 3);
        Check.due("9: the eighth", x.gift(1, 11, 0, 6, 6, 6), 7);
        was = Snapshot.of(x);
        Check.due("8: there are 8", x.money(0, 1, 6, 6, 6), -1);
        Check.due("9: there are 8", x.gift(0, 11, 0, 6, 6, 6), -1);
        Check.due("10: there are 8", x.rights(0, 11, 0, 6, 6, 6, 6), -1);
        Check.due("11: there are 8", x.turn(0, 1, 11, 0, 6), -1);
        Check.due("there are 8", Check.deeds(x, "money p 1 ex 6 record 6 pay 6;"), 0);
        Check.due("nothing is done", Snapshot.of(x), was);
        Check.due("undone", x.undo(), 5);
        Check.due("8: the eighth again", x.money(0, 1, 6, 6, 6), 7);
    }

    private static RecordClaims inDay(int day, String book) {
        RecordClaims x = Check.with(book);
        for (int left = day; left > 0; left -= 99) {
            x.days(Math.min(left, 99));
        }
        return x;
    }

    /** "DAY 0 at first, 999 at most". */
    private static void lastDays() {
        for (int day = 895; day <= 999; day++) {
            RecordClaims x = inDay(day, THREE);
            for (int n = 99; n > 999 - day && n > 0; n--) {
                Check.due("13: beyond 999", x.days(n), -1);
            }
            Check.due("13: none does", x.look(4), day);
            Check.due("13: as far as one can", x.days(Math.min(99, 999 - day)), day == 999 ? -1 : Math.min(999, day + 99));
        }
        RecordClaims x = inDay(998, THREE);
        Check.due("EX beyond DAY", x.money(0, 1, 998, 999, 999), -1);
        Check.due("EX 999", x.money(0, 1, 999, 999, 999), 0);
        Check.due("RECORD 999", x.turn(0, 1, 11, 0, 999), 1);
        Check.due("TRADE", x.trade(1, 0, 0, 10, 7, 1), 0);
        Check.due("the last one", x.days(1), 999);
        Check.due("SETTLED in it", x.told(0, 8), 999);
        Check.due("PAID in it", x.issued(0, 1), 107);
        Check.due("turned in it", x.has(1, 1), 17);
        Check.due("no EX is beyond", x.money(0, 1, 999, 999, 999), -1);
        Check.due("no EX is beyond", x.gift(0, 11, 1, 1000, 1000, 1000), -1);
        Check.due("no RECORD is beyond", x.turn(0, 1, 11, 0, 1000), -1);
        Check.due("a TRADE still", x.trade(1, 0, 1, 10, 7, 9), 1);
        Check.due("DUE", x.told(1, 6), 1008);
    }

    /** "if who sells has the SHARES ... else it stays OPEN". */
    private static void settlesWithAsMany() {
        for (int has = 0; has <= 6; has++) {
            RecordClaims x = Check.with(TWO + "has a p " + has + ";");
            x.trade(1, 0, 0, 5, 8, 1);
            x.days(1);
            boolean isEnough = has >= 5;
            Check.due("SETTLED with " + has, x.told(0, 7), isEnough ? 1 : 0);
            Check.due("in DAY", x.told(0, 8), isEnough ? 1 : -1);
            Check.due("who sells has", x.has(0, 0), isEnough ? has - 5 : has);
            Check.due("who buys has", x.has(1, 0), isEnough ? 5 : 0);
            Check.due("who sells", x.purse(0), isEnough ? 8 : 0);
            Check.due("who buys, to below 0", x.purse(1), isEnough ? -8 : 0);
        }
        RecordClaims x = Check.with(TWO + "has a p 1;has a q 9;");
        x.trade(1, 0, 0, 2, 8, 1);
        x.days(1);
        Check.due("SHARES of another PAPER are none", x.told(0, 7), 0);
    }

    /** "by numbers": what comes by a later one comes too late for this DAY. */
    private static void settlesByNumbers() {
        RecordClaims x = Check.with("holder a;holder b;holder c;paper p;has a p 5;");
        x.trade(2, 1, 0, 5, 1, 1);
        x.trade(1, 0, 0, 5, 1, 1);
        x.trade(0, 2, 0, 5, 1, 1);
        x.days(1);
        Check.due("ahead of what comes", x.told(0, 8), -1);
        Check.due("what comes", x.told(1, 8), 1);
        Check.due("nothing came", x.told(2, 8), -1);
        x.days(1);
        Check.due("the DAY behind", x.told(0, 8), 2);
        Check.due("in a row", x.told(2, 8), 2);
        Check.due("all the way round", x.has(0, 0), 5);
    }

    /** "that are DUE by then": not ahead of it, in it, each DAY behind it. */
    private static void settlesDueByThen() {
        for (int within = 1; within <= 9; within++) {
            RecordClaims x = Check.with(TWO + "has a p 5;");
            x.trade(1, 0, 0, 5, 1, within);
            if (within > 1) {
                x.days(within - 1);
            }
            Check.due("ahead of DUE", x.told(0, 7), 0);
            x.days(1);
            Check.due("in DUE", x.told(0, 8), within);
        }
        RecordClaims x = Check.with(TWO + "has b p 5;");
        x.trade(1, 0, 0, 5, 1, 1);
        x.days(20);
        x.trade(0, 1, 0, 5, 1, 1);
        x.days(2);
        Check.due("long behind DUE", x.told(0, 8), 22);
    }

    private static RecordClaims ofClaim(int told, int within, int ex, int record) {
        RecordClaims x = Check.with(TWO + "has a p 5;");
        x.money(0, 1, ex, record, record);
        if (told > 0) {
            x.days(told);
        }
        x.trade(1, 0, 0, 5, 0, within);
        x.days(record - told);
        return x;
    }

    /** "told ahead of EX"; "told in EX or later". */
    private static void toldAboutEx() {
        RecordClaims x = ofClaim(2, 9, 3, 5);
        Check.due("OPEN, told ahead of EX", x.claim(0, 0, 0), 0);
        Check.due("PAID", x.purse(1), 5);
        x = ofClaim(3, 9, 3, 5);
        Check.due("OPEN, told in EX", x.event(0, 6), 0);
        x = ofClaim(2, 1, 3, 5);
        Check.due("SETTLED, told ahead of EX", x.event(0, 6), 0);
        Check.due("WRITTEN", x.written(0, 1, 0), 5);
        x = ofClaim(3, 1, 3, 5);
        Check.due("SETTLED, told in EX", x.claim(0, 0, 0), 1);
        Check.due("PAID back", x.purse(1), 0);
        Check.due("PAID", x.purse(0), 5);
        x = ofClaim(4, 9, 3, 5);
        Check.due("OPEN, told behind EX", x.event(0, 6), 0);
        x = ofClaim(4, 1, 3, 5);
        Check.due("SETTLED, told behind EX", x.claim(0, 0, 0), 1);
    }

    /** SETTLING goes ahead of WRITING in a DAY. */
    private static void settledAboutRecord() {
        RecordClaims x = ofClaim(2, 3, 3, 5);
        Check.due("SETTLED in RECORD, told ahead of EX", x.event(0, 6), 0);
        x = ofClaim(2, 4, 3, 5);
        Check.due("DUE behind RECORD, told ahead of EX", x.claim(0, 0, 1), 1);
        x = ofClaim(3, 2, 3, 5);
        Check.due("SETTLED in RECORD, told in EX", x.claim(0, 0, 1), 0);
        x = ofClaim(3, 3, 3, 5);
        Check.due("DUE behind RECORD, told in EX", x.event(0, 6), 0);
        x = ofClaim(4, 9, 5, 5);
        Check.due("EX is RECORD: ahead of it", x.claim(0, 0, 1), 1);
        x.trade(1, 0, 0, 5, 0, 1);
        x.days(1);
        Check.due("told behind RECORD: none", x.event(0, 6), 1);
    }

    /** A DAY: SETTLING, WRITING, PAYING; "EVENTS by numbers". */
    private static void eventsInOneDay() {
        RecordClaims x = Check.with(TWO + "has a p 6;");
        x.trade(1, 0, 0, 2, 0, 1);
        x.gift(0, 11, 0, 1, 1, 1);
        x.gift(0, 21, 0, 1, 1, 1);
        x.money(0, 3, 1, 1, 1);
        x.turn(1, 0, 11, 0, 1);
        x.days(1);
        Check.due("WRITTEN ahead of PAYING", x.written(1, 0, 0), 4);
        Check.due("both of what was WRITTEN", x.has(0, 0), 4 + 4 + 8);
        Check.due("behind SETTLING", x.has(1, 0), 2 + 2 + 4);
        Check.due("MONEY of what was WRITTEN", x.purse(0), 12);
        for (int e = 0; e < 4; e++) {
            Check.due("PAID in its RECORD", x.event(e, 5), 2);
        }
    }

    /** "for the part that is left": none, and nobody's SHARES. */
    private static void turnsWithoutAPart() {
        for (int n = 0; n <= 7; n++) {
            RecordClaims x = Check.with(TWO + "has a p " + n + ";");
            x.turn(0, 1, 23, 1010, 1);
            x.days(1);
            Check.due("SHARES of " + n, x.has(0, 1), 2 * n / 3);
            Check.due("MONEY of " + n, x.purse(0), n + 2 * n % 3 * 10 / 3);
            Check.due("none left", x.has(0, 0), 0);
            Check.due("ISSUED", x.issued(0, 0), 2 * n / 3);
            Check.due("ISSUED", x.issued(0, 1), x.purse(0));
            Check.due("WRITTEN", x.written(0, 0, 0), n);
            Check.due("nobody's", x.written(0, 1, 0) + x.has(1, 1) + x.purse(1), 0);
        }
    }

    /** "AMOUNT less by what MONEY those SHARES brought (to below 0, perhaps); with no SHARES left it is TURNED". */
    private static void turnsTrades() {
        RecordClaims x = Check.with(TWO + "has a p 3;");
        x.turn(0, 1, 23, 1010, 1);
        x.trade(1, 0, 0, 1, 7, 9);
        x.trade(1, 0, 0, 2, 4, 9);
        x.trade(1, 0, 0, 1, 0, 9);
        x.trade(1, 0, 0, 1, 20, 9);
        x.trade(1, 0, 1, 1, 20, 9);
        x.days(1);
        // 1 SHARE: none, MONEY 1 and 2 parts 6; 2 SHARES: one, MONEY 2 and 1 part 3
        long[][] want = {{1, 0, 1, 0, 0, 0, 9, 2, 1}, {1, 0, 1, 1, -1, 0, 9, 0, -1}, {1, 0, 1, 0, -7, 0, 9, 2, 1},
            {1, 0, 1, 0, 13, 0, 9, 2, 1}, {1, 0, 1, 1, 20, 0, 9, 0, -1}};
        for (int t = 0; t < 5; t++) {
            for (int what = 0; what <= 8; what++) {
                Check.due("TRADE " + t + " " + what, x.told(t, what), want[t][what]);
            }
        }
        Check.due("AMOUNTS go at once", x.purse(0), 3 - 7 + 13);
        Check.due("AMOUNTS go at once", x.purse(1), 7 - 13);
        Check.due("ISSUED, TRADES aside", x.issued(0, 1), 3);
        Check.due("TURNED are not OPEN", x.look(5), 2);
        Check.due("TURNED are not OPEN", x.waits(0), -1);
        Check.due("OPEN ones by which it sells", x.wants(0, 1), 0);
        x.days(8);
        Check.due("an AMOUNT below 0", x.purse(1), 7 - 13 + 1 - 20);
        Check.due("SETTLED", x.has(1, 1), 2);
    }

    /** "EVENTS by numbers": one TURN's SHARES are there for the next. */
    private static void turnsThereAndBack() {
        RecordClaims x = Check.with(TWO + "has a p 4;");
        x.trade(1, 0, 0, 3, 0, 9);
        x.turn(0, 1, 11, 0, 1);
        x.turn(1, 0, 21, 0, 1);
        x.money(0, 1, 1, 1, 1);
        x.money(1, 1, 1, 1, 1);
        x.days(1);
        Check.due("there and back", x.has(0, 0), 8);
        Check.due("none of the other", x.has(0, 1), 0);
        Check.due("TRADE too", x.told(0, 3), 6);
        Check.due("its PAPER", x.told(0, 2), 0);
        int[] state = {2, 2, 3, 3};
        for (int e = 0; e < 4; e++) {
            Check.due("EVENT " + e, x.event(e, 5), state[e]);
        }
        x = Check.with(TWO + "has a p 4;");
        x.turn(1, 0, 21, 0, 1);
        x.turn(0, 1, 11, 0, 1);
        x.days(1);
        Check.due("nothing to turn back", x.has(0, 1), 4);
    }

    /** "the AMOUNT goes from who buys to who sells at once": of each TRADE its own. */
    private static void turnsTradesOfMany() {
        RecordClaims x = Check.with("holder a;holder b;holder c;holder d;paper p;paper q;");
        x.money(1, 1, 9, 9, 9);
        x.turn(0, 1, 12, 4000, 1);
        x.trade(0, 1, 0, 1, 5, 9);
        x.trade(1, 2, 1, 1, 6, 9);
        x.trade(2, 3, 0, 1, 7, 9);
        x.trade(3, 0, 0, 2, 8, 9);
        x.trade(1, 3, 0, 1, 9, 9);
        x.days(1);
        long[] state = {2, 0, 2, 0, 2};
        long[] purse = {-1, 1 - 5, -3, 3 + 5};
        for (int t = 0; t < 5; t++) {
            Check.due("TURNED " + t, x.told(t, 7), state[t]);
        }
        for (int h = 0; h < 4; h++) {
            Check.due("MONEY of " + h, x.purse(h), purse[h]);
        }
    }

    /** "whose RECORD is in a later DAY, and by numbers behind it in this one, are DROPPED". */
    private static void turnsDropLaterOnes() {
        RecordClaims x = Check.with(TWO + "has a p 4;");
        x.money(0, 1, 1, 3, 3);
        x.rights(0, 11, 0, 2, 1, 2, 5);
        x.turn(0, 1, 11, 0, 2);
        x.money(0, 1, 1, 2, 2);
        x.turn(0, 1, 11, 0, 2);
        x.rights(0, 11, 0, 9, 1, 3, 9);
        x.money(1, 1, 1, 2, 2);
        x.money(0, 1, 1, 1, 9);
        x.days(2);
        int[] state = {3, 1, 2, 3, 3, 3, 2, 1};
        for (int e = 0; e < 8; e++) {
            Check.due("EVENT " + e, x.event(e, 5), state[e]);
            Check.due("choose for it", x.choose(e, 0, 1, 1) ? 1 : 0, e == 1 ? 1 : 0);
            Check.due("WRITTEN of it", x.written(e, 0, 0), state[e] == 3 ? 0 : 4);
        }
        x.days(7);
        Check.due("what was WRITTEN is PAID", x.purse(0), 8);
        Check.due("its RIGHTS too", x.has(0, 0), 1);
        Check.due("DROPPED for good", x.event(0, 5), 3);
        Check.due("DROPPED for good", x.issued(0, 1), 0);
    }

    /** RECORD counts, not EX, UNTIL or PAY. */
    private static void dropsWhateverItsPay() {
        for (int pay = 5; pay <= 9; pay++) {
            RecordClaims x = Check.with(TWO + "has a p 4;");
            x.money(0, 1, 1, 5, pay);
            x.turn(0, 1, 11, 0, 5);
            x.money(0, 1, 1, 5, pay);
            x.gift(0, 11, 0, 5, 5, pay);
            x.rights(0, 11, 0, pay, 2, 5, pay);
            x.money(0, 1, 1, 4, pay);
            x.money(1, 1, 1, 5, pay);
            x.days(5);
            int[] state = {1, 2, 3, 3, 3, 1, 1};
            for (int e = 0; e < 7; e++) {
                Check.due("EVENT " + e + " of PAY " + pay, x.event(e, 5), pay == 5 && state[e] == 1 ? 2 : state[e]);
            }
        }
    }

    /** What is told behind a TURN is to come all the same. */
    private static void toldBehindATurn() {
        RecordClaims x = Check.with(TWO + "has a p 4;");
        x.turn(0, 1, 11, 0, 1);
        x.days(1);
        Check.due("an EVENT", x.money(0, 1, 2, 2, 2), 1);
        Check.due("a TRADE", x.trade(1, 0, 0, 1, 5, 1), 0);
        x.days(1);
        Check.due("PAID", x.event(1, 5), 2);
        Check.due("of nothing", x.issued(1, 1), 0);
        Check.due("OPEN for good", x.told(0, 7), 0);
    }

    /** "if who pays has as many; else it WAITS". */
    private static void paysWithAsMany() {
        for (int sold = 19; sold <= 22; sold++) {
            RecordClaims x = Check.with(TWO + "has a p 10;");
            x.trade(1, 0, 0, sold, 0, 9);
            x.gift(0, 11, 7, 1, 1, 1);
            x.days(1);
            boolean waits = sold > 20;
            Check.due("CLAIM for " + sold, x.claim(0, 0, 4), waits ? 2 : 1);
            Check.due("who pays", x.has(0, 0), waits ? 20 : 20 - sold);
            Check.due("who is paid", x.has(1, 0), waits ? 0 : sold);
            Check.due("EVENT", x.event(0, 7), waits ? 1 : 0);
            Check.due("in all", x.look(7), waits ? 1 : 0);
            Check.due("WRITTEN still", x.written(0, 0, 0), 10);
            Check.due("EVENT is PAID", x.event(0, 5), 2);
        }
    }

    /** Of no SHARES there are always as many: the MONEY goes. */
    private static void paysNothing() {
        RecordClaims x = Check.with(TWO + "has b q 1;");
        x.trade(1, 0, 0, 1, 0, 9);
        x.gift(0, 12, 9, 1, 1, 1);
        x.money(0, 5, 1, 1, 1);
        x.days(1);
        Check.due("no SHARES", x.claim(0, 0, 5), 0);
        Check.due("the part's MONEY", x.claim(0, 0, 6), 4);
        Check.due("it is PAID", x.claim(0, 0, 4), 1);
        Check.due("who pays, below 0", x.purse(0), -9);
        Check.due("who is paid", x.purse(1), 9);
        Check.due("ISSUED, CLAIMS aside", x.issued(0, 0) + x.issued(0, 1) + x.issued(1, 1), 0);
    }

    /** "tried in each DAY behind PAYING of all EVENTS". */
    private static void triesBehindAll() {
        RecordClaims x = Check.with(TWO + "has a p 1;");
        x.trade(1, 0, 0, 5, 0, 9);
        x.gift(0, 11, 0, 1, 1, 1);
        x.gift(0, 91, 0, 1, 1, 1);
        x.days(1);
        Check.due("behind the other EVENT's SHARES", x.claim(0, 0, 4), 1);
        Check.due("too many", x.claim(1, 0, 4), 2);
        Check.due("EVENT 0", x.event(0, 7), 0);
        Check.due("EVENT 1", x.event(1, 7), 1);
        Check.due("who pays", x.has(0, 0), 1 + 1 + 9 - 5);
    }

    /** "by EVENTS, by numbers": what comes by a later CLAIM comes too late for this DAY. */
    private static void triesOnceADay() {
        RecordClaims x = Check.with("holder a;holder b;holder c;holder d;paper p;has d p 100;");
        x.trade(1, 0, 0, 10, 0, 9);
        x.trade(0, 2, 0, 10, 0, 9);
        x.gift(0, 11, 0, 1, 1, 1);
        x.days(1);
        Check.due("both WAIT", x.event(0, 7), 2);
        x.trade(2, 3, 0, 9, 0, 1);
        x.days(1);
        Check.due("one too few", x.event(0, 7), 2);
        x.trade(2, 3, 0, 1, 0, 1);
        x.days(1);
        Check.due("too late for this one", x.claim(0, 0, 4), 2);
        Check.due("PAID", x.claim(0, 1, 4), 1);
        Check.due("who is paid", x.has(0, 0), 10);
        x.days(1);
        Check.due("the DAY behind", x.claim(0, 0, 4), 1);
        Check.due("who is paid", x.has(1, 0), 10);
        Check.due("none WAITS", x.look(7), 0);
    }

    /** "as many as it chose, R at most"; "what is left at most"; "the others LAPSE". */
    private static void rightsAtMost() {
        int[][] all = {{0, 0, 0, 0, 3}, {3, 0, 3, 0, 0}, {4, 0, 3, 0, 0}, {2, 1, 2, 1, 0}, {2, 2, 2, 1, 0}, {2, 0, 2, 0, 1},
            {0, 3, 0, 3, 0}, {0, 4, 0, 3, 0}, {0, 2, 0, 2, 1}, {3, 1, 3, 0, 0}, {999999999, 999999999, 3, 0, 0},
            {0, 999999999, 0, 3, 0}};
        for (int[] each : all) {
            RecordClaims x = Check.with(TWO + "has a p 7;");
            x.rights(0, 12, 3004, 1, 1, 1, 2);
            x.choose(0, 0, each[0], each[1]);
            x.choose(0, 1, 5, 5);
            x.days(2);
            for (int what = 2; what <= 6; what++) {
                Check.due("written " + what + " of " + Arrays.toString(each), x.written(0, 0, what), each[what - 2]);
                Check.due("of no RIGHTS", x.written(0, 1, what), what < 4 ? 5 : 0);
            }
            Check.due("SHARES", x.has(0, 0), 7 + each[2]);
            Check.due("MONEY", x.purse(0), 4 * each[3] - 3 * each[2]);
            Check.due("ISSUED", x.issued(0, 0), each[2]);
            Check.due("ISSUED", x.issued(0, 1), 4 * each[3] - 3 * each[2]);
        }
    }

    private static void rightsRun(int has, int[] sold, int fromA, int fromB) {
        RecordClaims x = Check.with(TWO + "has a p " + has + ";");
        for (int n : sold) {
            x.trade(1, 0, 0, n, 0, 9);
        }
        x.rights(0, 12, 3004, 1, 1, 1, 1);
        x.choose(0, 0, 100, 0);
        x.choose(0, 1, 0, 100);
        x.days(1);
        String run = has + " less " + Arrays.toString(sold) + ": ";
        Check.due(run + "TAKEN", x.written(0, 0, 4), Math.max(fromA, 0));
        Check.due(run + "wanting", x.written(0, 0, 6), Math.min(fromA, 0));
        Check.due(run + "MONEY", x.purse(0), fromA < 0 ? 4 * fromA : -3 * fromA);
        Check.due(run + "SOLD", x.written(0, 1, 5), fromB);
        Check.due(run + "SOLD", x.purse(1), 4 * fromB);
        Check.due(run + "ISSUED", x.issued(0, 1), (fromA < 0 ? 4 * fromA : -3 * fromA) + 4 * fromB);
        Check.due(run + "ISSUED", x.issued(0, 0), Math.max(fromA, 0));
        for (int i = 0; i < sold.length; i++) {
            Check.due(run + "how many of these", x.claim(0, i, 5), sold[i] / 2);
            Check.due(run + "no MONEY", x.claim(0, i, 6), 0);
            Check.due(run + "PAID", x.claim(0, i, 4), 1);
        }
    }

    /** "of WRITTEN a times by b, cut, and likewise of each CLAIM, more or less"; "If R is below 0". */
    private static void rightsOfClaims() {
        rightsRun(7, new int[] {1, 1}, 3, 0);
        rightsRun(7, new int[] {2}, 2, 1);
        rightsRun(7, new int[] {3, 3}, 1, 2);
        rightsRun(2, new int[] {2}, 0, 1);
        rightsRun(3, new int[] {2, 1}, 0, 1);
        rightsRun(0, new int[] {2}, -1, 1);
        rightsRun(1, new int[] {3}, -1, 1);
        rightsRun(0, new int[] {1}, 0, 0);
        rightsRun(5, new int[] {4, 4, 4}, -4, 6);
    }

    /** "If R is below 0, MONEY is less by the worth of those that are wanting": of a purse that isn't 0. */
    private static void wantingOnes() {
        for (int worth : new int[] {0, 1, 999}) {
            RecordClaims x = Check.with(TWO + "has a p 1;");
            x.trade(1, 0, 0, 1, 70, 1);
            x.trade(1, 0, 0, 5, 0, 9);
            x.rights(0, 11, 500000 + worth, 1, 1, 1, 2);
            x.choose(0, 0, 9, 9);
            x.days(2);
            Check.due("wanting", x.written(0, 0, 6), -5);
            Check.due("none TAKEN", x.written(0, 0, 4), 0);
            Check.due("none SOLD", x.written(0, 0, 5), 0);
            Check.due("MONEY is less", x.purse(0), 70 - 5 * worth);
            Check.due("ISSUED", x.issued(0, 1), -5 * worth);
            Check.due("no SHARES", x.issued(0, 0), 0);
            Check.due("all LAPSE", x.written(0, 1, 6), 6);
        }
    }

    /** Of each HOLDER its own, of each EVENT its own. */
    private static void ofManyWanting() {
        RecordClaims x = Check.with("holder a;holder b;holder c;holder d;paper p;has a p 10;");
        x.money(0, 1, 5, 5, 5);
        x.rights(0, 11, 7, 1, 1, 1, 2);
        x.trade(0, 2, 0, 3, 0, 9);
        x.trade(0, 3, 0, 4, 0, 9);
        x.days(2);
        long[] wanting = {17, 0, -3, -4};
        long[] money = {0, 0, -21, -28};
        for (int h = 0; h < 4; h++) {
            Check.due("wanting of " + h, x.written(1, h, 6), wanting[h]);
            Check.due("MONEY of " + h, x.purse(h), money[h]);
            Check.due("none of another EVENT", x.written(0, h, 6), 0);
        }
    }

    /** Each DAY undone, and done again: nothing is lost of all that there can be. */
    private static void undoesAllThereCanBe() {
        RecordClaims x = Check.with(Full.book());
        for (int day = 0; day < 14; day++) {
            if (day < 5) {
                Full.tell(x, day);
            }
            String was = Snapshot.of(x);
            x.days(1);
            String then = Snapshot.of(x);
            x.days(3);
            x.days(9);
            x.undo();
            x.undo();
            Check.due("14: two are undone in " + day, Snapshot.of(x), then);
            x.undo();
            Check.due("14: all is undone in " + day, Snapshot.of(x), was);
            x.days(1);
            Check.due("14: done again in " + day, Snapshot.of(x), then);
        }
    }

    /** HOLDERS 0 .. 9, PAPERS 0 .. 4, TRADES 0 .. 59, EVENTS 0 .. 7: all that there can be, in one DAY. */
    private static void fullHouse() {
        for (int last = 0; last < 4; last++) {
            RecordClaims x = Check.with(Full.NAMES + "has a t 100000;has j t 100000;");
            for (int e = 0; e < 7; e++) {
                Check.due("EVENTS", x.rights(4, 11, 1002, 2, 1, 1, 2), e);
            }
            int event = last == 0 ? x.money(4, 3, 1, 1, 2) : last == 1 ? x.gift(4, 12, 5, 1, 1, 2)
                    : last == 2 ? x.rights(4, 12, 1003, 2, 1, 1, 2) : x.turn(4, 3, 12, 3005, 1);
            Check.due("the last EVENT", event, 7);
            Check.yes("CHOOSES", x.choose(6, 9, 10, 20));
            for (int t = 0; t < 60; t++) {
                Check.due("TRADES", x.trade(8, 9, 4, 3, 10, 9), t);
            }
            x.days(2);
            Check.due("CLAIMS", x.event(7, 6), last == 3 ? 0 : 60);
            Check.due("CLAIMS", x.event(6, 6), 60);
            Check.due("RIGHTS", x.written(6, 9, 4) + x.written(6, 9, 5) + x.written(6, 9, 6), 100000 - 180);
            Check.due("RIGHTS", x.written(6, 8, 6), 180);
            long[] shares = {10, 50000 - 60 + 10, 10, 10};
            long[] money = {300000 - 540, -120, 0, 300000};
            Check.due("SHARES", x.has(9, 4), last == 3 ? 10 : 100000 + shares[last]);
            Check.due("MONEY", x.purse(9), 20 * 2 - 10 + money[last]);
            Check.due("the other PAPER", x.has(9, 3), last == 3 ? 50000 : 0);
            Check.due("TRADES", x.told(59, 3), last == 3 ? 1 : 3);
            Check.due("TRADES", x.told(59, 4), last == 3 ? 10 - 9 - 2 : 10);
        }
    }

    /** "UNTIL that DAY (that one, too)"; "PAID"; "in place of what it chose". */
    private static void choosesUntil() {
        RecordClaims x = Check.with(THREE);
        x.rights(0, 11, 5006, 3, 2, 2, 5);
        x.rights(0, 11, 5006, 3, 2, 2, 3);
        for (int day = 0; day <= 6; day++) {
            Check.due("12: UNTIL 3, PAY 5, in " + day, x.choose(0, 0, day, 2 * day) ? 1 : 0, day <= 3 ? 1 : 0);
            Check.due("12: UNTIL 3, PAY 3, in " + day, x.choose(1, 0, day, 2 * day) ? 1 : 0, day <= 2 ? 1 : 0);
            Check.due("12: in place of it", x.written(0, 0, 2), Math.min(day, 3));
            Check.due("12: in place of it", x.written(0, 0, 3), 2 * Math.min(day, 3));
            Check.due("12: as it was", x.written(1, 0, 2), Math.min(day, 2));
            Check.due("12: of another HOLDER", x.written(0, 1, 2), 0);
            x.days(1);
        }
        Check.due("TAKEN", x.written(0, 0, 4), 3);
        Check.due("SOLD", x.written(0, 0, 5), 6);
        Check.due("TAKEN", x.written(1, 0, 4), 2);
    }

    /** "6 at most are kept"; "NONE: there is none". */
    private static void undoesSix() {
        for (int n = 0; n <= 20; n++) {
            RecordClaims x = Check.with(THREE);
            for (int i = 0; i < n; i++) {
                x.days(1);
            }
            Check.due("14: kept", x.look(8), Math.min(n, 6));
            for (int i = 1; i <= Math.min(n, 6); i++) {
                Check.due("14: how many are left", x.undo(), Math.min(n, 6) - i);
                Check.due("14: DAY", x.look(4), n - i);
            }
            Check.due("14: there is none", x.undo(), -1);
            Check.due("14: nothing is undone", x.look(4), n - Math.min(n, 6));
            for (int i = 0; i < 8; i++) {
                x.days(2);
                x.undo();
                x.days(3);
            }
            for (int i = 5; i >= 0; i--) {
                Check.due("14: round and round", x.undo(), i);
            }
            Check.due("14: there is none", x.undo(), -1);
            Check.due("14: DAY", x.look(4), n - Math.min(n, 6) + 6);
        }
    }

    /** Calls that did nothing are none that can be undone. */
    private static void undoesNothingElse() {
        RecordClaims x = inDay4();
        x.undo();
        int kept = x.look(8);
        String was = Snapshot.of(x);
        x.trade(0, 0, 0, 1, 1, 1);
        x.money(0, 0, 1, 1, 1);
        x.gift(0, 10, 0, 1, 1, 1);
        x.rights(0, 10, 0, 1, 1, 1, 1);
        x.turn(0, 0, 11, 0, 1);
        x.choose(0, 9, 0, 0);
        x.days(0);
        Check.deeds(x, "days 0;");
        Check.deeds(x, "");
        Check.deeds(x, "days 1;days");
        Check.book(x, "holder");
        x.show(0);
        x.named(0);
        x.feed(1, 2, 3, 4, 5);
        x.end(0);
        Check.due("14: as many", x.look(8), kept);
        Check.due("14: all stays", Snapshot.of(x), was);
        Check.due("14: the one ahead of these", x.undo(), kept - 1);
        Check.due("14: TRADES", x.look(2), 0);
        Check.book(x, THREE);
        Check.due("14: a BOOK ends that", x.undo(), -1);
        Check.due("14: a BOOK ends that", x.look(8), 0);
    }

    private static final String[] LONG = {"trade bo al p 10 50 within 9;", "rights p 2 for 1 at 5 worth 20 until 3 ex 2 record 2 pay 4;",
        "choose 0 al 30 40;", "money p 4 ex 1 record 2 pay 3;", "days 1;", "trade al bo p 300 5;trade cy bo p 6 99 within 1;",
        "gift p 2 for 3 cash 7 ex 2 record 3 pay 4;", "choose 0 bo 3 9;", "days 1;", "trade bo al p 2 8 within 1;", "days 1;",
        "turn p into q 3 for 2 plus 5 cash 11 record 6;money p 1 ex 5 record 7 pay 8;", "days 1;", "days 1;",
        "trade al cy q 1 1;", "days 1;", "rights q 1 for 2 at 1 worth 2 until 9 ex 8 record 9 pay 9;", "choose 5 cy 2 2;", "days 3;",
        "days 50;"};

    /** Whatever was done, undoing it leaves nothing of it, and doing it again is as it was. */
    private static void undoesAll() {
        List<String> was = new ArrayList<>();
        RecordClaims x = Check.with(THREE);
        for (String each : LONG) {
            was.add(Snapshot.of(x));
            Check.yes("14: all of '" + each + "' is done", Check.deeds(x, each) == each.chars().filter(c -> c == ';').count());
        }
        was.add(Snapshot.of(x));
        Check.due("14: each does something else", was.stream().distinct().count(), LONG.length + 1);
        for (int n = 1; n <= LONG.length; n++) {
            RecordClaims y = Check.with(THREE);
            for (int i = 0; i < n; i++) {
                Check.deeds(y, LONG[i]);
            }
            Check.due("14: as it was done", Snapshot.of(y), was.get(n));
            int done = n;
            while (y.look(8) > 0) {
                y.undo();
                done--;
                Check.due("14: as it was ahead of " + done, Snapshot.of(y), was.get(done));
            }
            Check.due("14: done again", again(y, done, n), was.get(n));
        }
    }

    private static String again(RecordClaims x, int from, int to) {
        for (int i = from; i < to; i++) {
            Check.deeds(x, LONG[i]);
        }
        return Snapshot.of(x);
    }
}
