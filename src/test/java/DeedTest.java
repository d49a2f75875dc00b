/** Deeds by call, what a DAY does, undoing: promises 7 to 22. */
public final class DeedTest {
    private static final long NO = Long.MIN_VALUE;
    private static final String THREE = "holder al;holder bo;holder cy;paper p;paper q;has al p 100;has bo p 7;has cy q 30;";

    public static void main(String[] args) {
        trades();
        tradesThatCannotBe();
        settling();
        eventsThatCannotBe();
        eventLimits();
        claimsOfMoney();
        claimsByDays();
        gifts();
        giftsThatWait();
        rights();
        rightsThatAreWanting();
        choices();
        turns();
        turnsDrop();
        days();
        undoing();
        answersOfNone();
        Check.end("DeedTest");
    }

    private static void trades() {
        RecordClaims x = Check.with(THREE);
        Check.due("trade", x.trade(1, 0, 0, 10, 50, 3), 0);
        Check.due("most", x.trade(1, 2, 1, 100000, 99999999, 9), 1);
        Check.due("least", x.trade(0, 2, 1, 1, 0, 1), 2);
        x.days(2);
        Check.due("later", x.trade(2, 1, 0, 5, 6, 2), 3);
        long[] want = {2, 1, 0, 5, 6, 2, 4, 0, -1};
        for (int what = 0; what < 9; what++) {
            Check.due("told " + what, x.told(3, what), want[what]);
        }
        Check.due("another what", x.told(3, 9), NO);
        Check.due("another what", x.told(3, -1), NO);
        Check.due("no such", x.told(4, 0), NO);
        Check.due("no such", x.told(-1, 0), NO);
        for (int i = 4; i < 60; i++) {
            Check.due("trade " + i, x.trade(0, 1, 0, 1, 1, 1), i);
        }
        Check.due("the 61st", x.trade(0, 1, 0, 1, 1, 1), -1);
        Check.due("the 61st by text", Check.deeds(x, "trade al bo p 1 1;"), 0);
        Check.due("trades", x.look(2), 60);
        Check.due("undone", x.undo(), 5);
        Check.due("again", x.trade(0, 1, 0, 1, 1, 1), 59);
        // DUE may be beyond 999
        x = Check.with(THREE);
        for (int i = 0; i < 11; i++) {
            x.days(90);
        }
        x.days(9);
        Check.due("the last DAY", x.look(4), 999);
        Check.due("told in it", x.trade(0, 1, 0, 1, 1, 9), 0);
        Check.due("DUE", x.told(0, 6), 1008);
    }

    private static void tradesThatCannotBe() {
        RecordClaims x = Check.with(THREE);
        int[][] cannot = {{0, 0, 0, 1, 1, 1}, {3, 0, 0, 1, 1, 1}, {-1, 0, 0, 1, 1, 1}, {0, 3, 0, 1, 1, 1},
            {0, -1, 0, 1, 1, 1}, {0, 1, 2, 1, 1, 1}, {0, 1, -1, 1, 1, 1}, {0, 1, 0, 0, 1, 1}, {0, 1, 0, 100001, 1, 1},
            {0, 1, 0, -1, 1, 1}, {0, 1, 0, 1, -1, 1}, {0, 1, 0, 1, 100000000, 1}, {0, 1, 0, 1, 1, 0}, {0, 1, 0, 1, 1, 10},
            {0, 1, 0, 1, 1, -1}};
        for (int[] c : cannot) {
            Check.due("trade that can't be", x.trade(c[0], c[1], c[2], c[3], c[4], c[5]), -1);
        }
        Check.due("trades", x.look(2), 0);
        Check.due("kept", x.look(8), 0);
    }

    private static void settling() {
        RecordClaims x = Check.with(THREE);
        x.trade(1, 0, 0, 100, 50, 2);
        x.trade(2, 1, 0, 107, 70, 2);
        x.trade(0, 2, 0, 108, 90, 2);
        x.days(1);
        Check.due("not DUE", x.told(0, 7), 0);
        x.days(1);
        Check.due("SETTLED", x.told(0, 7), 1);
        Check.due("in DAY", x.told(0, 8), 2);
        Check.due("in a row", x.told(1, 7), 1);
        Check.due("too many", x.told(2, 7), 0);
        Check.due("none in DAY", x.told(2, 8), -1);
        Check.due("al", x.has(0, 0), 0);
        Check.due("bo", x.has(1, 0), 0);
        Check.due("cy", x.has(2, 0), 107);
        Check.due("al's purse", x.purse(0), 50);
        Check.due("bo's purse", x.purse(1), 20);
        Check.due("cy's purse", x.purse(2), -70);
        x.trade(2, 0, 0, 1, 5, 1);
        x.days(1);
        Check.due("al has none", x.told(3, 7), 0);
        x.trade(0, 2, 0, 1, 5, 1);
        x.days(1);
        Check.due("comes behind", x.told(3, 7), 0);
        Check.due("al has one", x.has(0, 0), 1);
        x.days(1);
        Check.due("the DAY behind", x.told(3, 8), 5);
        Check.due("beyond it was DUE", x.told(3, 6), 3);
        Check.due("has of none", x.has(3, 0), -1);
        Check.due("has of none", x.has(0, 2), -1);
        Check.due("has of none", x.has(-1, 0), -1);
        Check.due("has of none", x.has(0, -1), -1);
        Check.due("purse of none", x.purse(3), NO);
        Check.due("purse of none", x.purse(-1), NO);
    }

    private static void eventsThatCannotBe() {
        RecordClaims x = Check.with(THREE);
        x.days(3);
        // paper, c, ex, record, pay
        int[][] money = {{2, 1, 4, 5, 6}, {-1, 1, 4, 5, 6}, {0, 0, 4, 5, 6}, {0, 1000, 4, 5, 6}, {0, 1, 3, 5, 6}, {0, 1, 5, 4, 6},
            {0, 1, 4, 5, 4}, {0, 1, 4, 5, 1000}, {0, -1, 4, 5, 6}, {0, 1, -4, 5, 6}};
        for (int[] m : money) {
            Check.due("money", x.money(m[0], m[1], m[2], m[3], m[4]), -1);
        }
        for (int ab : new int[] {0, 1, 9, 10, 20, 100, 101, 111, -11, -1, Integer.MIN_VALUE, Integer.MAX_VALUE}) {
            Check.due("gift " + ab, x.gift(0, ab, 1, 4, 5, 6), -1);
            Check.due("rights " + ab, x.rights(0, ab, 1001, 5, 4, 5, 6), -1);
            Check.due("turn " + ab, x.turn(0, 1, ab, 1001, 5), -1);
        }
        for (int prices : new int[] {-1, -1000, -1001, 1000000, 1000001, Integer.MIN_VALUE, Integer.MAX_VALUE}) {
            Check.due("rights at " + prices, x.rights(0, 11, prices, 5, 4, 5, 6), -1);
            Check.due("turn at " + prices, x.turn(0, 1, 11, prices, 5), -1);
        }
        Check.due("gift's cash", x.gift(0, 11, -1, 4, 5, 6), -1);
        Check.due("gift's cash", x.gift(0, 11, 1000, 4, 5, 6), -1);
        Check.due("gift's paper", x.gift(2, 11, 1, 4, 5, 6), -1);
        Check.due("gift's ex", x.gift(0, 11, 1, 3, 5, 6), -1);
        Check.due("rights' paper", x.rights(2, 11, 1001, 5, 4, 5, 6), -1);
        Check.due("until ahead of record", x.rights(0, 11, 1001, 4, 4, 5, 6), -1);
        Check.due("until beyond pay", x.rights(0, 11, 1001, 7, 4, 5, 6), -1);
        Check.due("turn's paper", x.turn(2, 0, 11, 0, 5), -1);
        Check.due("turn's into", x.turn(0, 2, 11, 0, 5), -1);
        Check.due("turn's into", x.turn(0, -1, 11, 0, 5), -1);
        Check.due("into itself", x.turn(1, 1, 11, 0, 5), -1);
        Check.due("turn's record", x.turn(0, 1, 11, 0, 3), -1);
        Check.due("turn's record", x.turn(0, 1, 11, 0, 1000), -1);
        Check.due("events", x.look(3), 0);
        Check.due("kept", x.look(8), 1);
    }

    private static void eventLimits() {
        RecordClaims x = Check.with(THREE);
        Check.due("money", x.money(0, 999, 1, 1, 1), 0);
        Check.due("gift", x.gift(0, 99, 999, 999, 999, 999), 1);
        Check.due("rights", x.rights(1, 11, 999999, 7, 5, 6, 7), 2);
        Check.due("turn", x.turn(0, 1, 19, 999999, 999), 3);
        Check.due("money", x.money(1, 1, 1, 2, 3), 4);
        Check.due("gift", x.gift(1, 11, 0, 1, 2, 3), 5);
        Check.due("rights", x.rights(1, 91, 0, 2, 1, 2, 3), 6);
        Check.due("turn", x.turn(1, 0, 11, 0, 1), 7);
        Check.due("the 9th", x.money(1, 1, 1, 2, 3), -1);
        Check.due("the 9th", x.gift(1, 11, 0, 1, 2, 3), -1);
        Check.due("the 9th", x.rights(1, 91, 0, 2, 1, 2, 3), -1);
        Check.due("the 9th", x.turn(1, 0, 11, 0, 1), -1);
        Check.due("events", x.look(3), 8);
        int[][] want = {{0, 0, 1, 1, 1, 0, 0, 0}, {1, 0, 999, 999, 999, 0, 0, 0}, {2, 1, 5, 6, 7, 0, 0, 0},
            {3, 0, 999, 999, 999, 0, 0, 0}};
        for (int e = 0; e < 4; e++) {
            for (int what = 0; what < 8; what++) {
                Check.due("event " + e + " " + what, x.event(e, what), want[e][what]);
            }
        }
        Check.due("another what", x.event(0, 8), -1);
        Check.due("another what", x.event(0, -1), -1);
        Check.due("no such", x.event(8, 0), -1);
        Check.due("no such", x.event(-1, 0), -1);
    }

    private static void claimsOfMoney() {
        RecordClaims x = Check.with(THREE);
        x.trade(1, 0, 0, 10, 50, 3);
        x.money(0, 4, 1, 2, 4);
        x.days(1);
        x.trade(2, 0, 0, 5, 9, 1);
        Check.due("to come", x.event(0, 5), 0);
        Check.due("not written", x.written(0, 0, 0), 0);
        x.days(1);
        Check.due("WRITTEN", x.event(0, 5), 1);
        long[][] written = {{95, 90}, {7, 17}, {5, 0}};
        for (int h = 0; h < 3; h++) {
            Check.due("written " + h, x.written(0, h, 0), written[h][0]);
            Check.due("owed " + h, x.written(0, h, 1), written[h][1]);
            for (int what = 2; what <= 6; what++) {
                Check.due("written " + h + " " + what, x.written(0, h, what), 0);
            }
        }
        long[][] claims = {{0, 1, 10, 0, 0, 0, 40}, {2, 0, 5, 1, 0, 0, 20}};
        for (int i = 0; i < 2; i++) {
            for (int what = 0; what < 7; what++) {
                Check.due("claim " + i + " " + what, x.claim(0, i, what), claims[i][what]);
            }
        }
        Check.due("claims", x.event(0, 6), 2);
        Check.due("nothing came", x.issued(0, 1), 0);
        x.days(2);
        Check.due("PAID", x.event(0, 5), 2);
        Check.due("claim PAID", x.claim(0, 0, 4), 1);
        Check.due("claim PAID", x.claim(0, 1, 4), 1);
        Check.due("al", x.purse(0), 419);
        Check.due("bo", x.purse(1), 18);
        Check.due("cy", x.purse(2), -9);
        Check.due("issued", x.issued(0, 1), 428);
        Check.due("no shares", x.issued(0, 0), 0);
    }

    /** A CLAIM is there by when its TRADE was told and SETTLED. */
    private static void claimsByDays() {
        // EX 3, RECORD 5, PAY 6; one TRADE told in DAY t within w
        for (int told = 0; told <= 5; told++) {
            for (int within = 1; within <= 6; within++) {
                RecordClaims x = Check.with("holder a;holder b;paper p;has a p 50;");
                x.money(0, 2, 3, 5, 6);
                if (told > 0) {
                    x.days(told);
                }
                x.trade(1, 0, 0, 20, 0, within);
                x.days(6 - told);
                boolean isSettled = told < 5 && told + within <= 5;
                int kind = told < 3 && !isSettled ? 1 : told >= 3 && isSettled ? 2 : 0;
                String run = "told " + told + " within " + within;
                Check.due(run, x.event(0, 6), kind == 0 ? 0 : 1);
                Check.due(run + " FROM", x.claim(0, 0, 0), kind == 0 ? -1 : kind - 1);
                Check.due(run + " TO", x.claim(0, 0, 1), kind == 0 ? -1 : 2 - kind);
                Check.due(run + " owed a", x.written(0, 0, 1), told < 3 ? 30 : 50);
                Check.due(run + " owed b", x.written(0, 1, 1), told < 3 ? 20 : 0);
                Check.due(run + " a", x.purse(0), told < 3 ? 60 : 100);
                Check.due(run + " b", x.purse(1), told < 3 ? 40 : 0);
            }
        }
        // another PAPER has none
        RecordClaims x = Check.with(THREE);
        x.trade(0, 2, 1, 5, 5, 9);
        x.money(0, 1, 1, 1, 1);
        x.days(1);
        Check.due("none", x.event(0, 6), 0);
        Check.due("no claim", x.claim(0, 0, 0), -1);
    }

    private static void gifts() {
        RecordClaims x = Check.with("holder a;holder b;paper p;paper q;has a p 17;has b p 4;");
        x.trade(1, 0, 0, 4, 0, 9);
        x.gift(0, 35, 99, 1, 1, 2);
        x.days(1);
        Check.due("claim shares", x.claim(0, 0, 5), 2);
        Check.due("claim money", x.claim(0, 0, 6), 39);
        x.days(1);
        // a: 51 by 5: 10 and 1 part: 19; b: 12 by 5: 2 and 2 parts: 39; of the claim 2 and 39
        Check.due("a", x.has(0, 0), 17 + 10 - 2);
        Check.due("b", x.has(1, 0), 4 + 2 + 2);
        Check.due("a's purse", x.purse(0), 19 - 39);
        Check.due("b's purse", x.purse(1), 39 + 39);
        Check.due("issued shares", x.issued(0, 0), 12);
        Check.due("issued money", x.issued(0, 1), 58);
        Check.due("none of q", x.has(0, 1), 0);
        Check.due("PAID", x.event(0, 5), 2);
        Check.due("claim", x.claim(0, 0, 4), 1);
    }

    private static void giftsThatWait() {
        // a sold more than it has; MONEY goes with the SHARES
        RecordClaims x = Check.with("holder a;holder b;holder c;paper p;has a p 10;has c p 99;");
        x.trade(1, 0, 0, 41, 0, 1);
        x.trade(0, 2, 0, 30, 0, 4);
        x.gift(0, 12, 10, 1, 1, 2);
        x.days(2);
        // a: 10 by 2: 5, has 15; the claim on a is for 20 (and 5); then c gives a 15: tried behind all, a has 30
        Check.due("tried in the same DAY", x.claim(0, 0, 4), 1);
        Check.due("none waits", x.look(7), 0);
        Check.due("a", x.has(0, 0), 10);
        Check.due("b", x.has(1, 0), 20);
        Check.due("c", x.has(2, 0), 99 + 49 - 15);
        Check.due("a's purse", x.purse(0), -5);
        Check.due("b's purse", x.purse(1), 5);
        // now it waits some DAYS, and what SETTLES goes ahead
        x = Check.with("holder a;holder b;holder c;paper p;has a p 10;has c p 99;");
        x.trade(1, 0, 0, 41, 0, 1);
        x.gift(0, 12, 10, 1, 1, 2);
        x.days(1);
        x.trade(0, 2, 0, 4, 0, 1);
        x.days(1);
        Check.due("WAITS", x.claim(0, 0, 4), 2);
        Check.due("PAID all the same", x.event(0, 5), 2);
        Check.due("how many", x.event(0, 7), 1);
        Check.due("in all", x.look(7), 1);
        Check.due("a", x.has(0, 0), 19);
        Check.due("a's purse", x.purse(0), 0);
        x.days(3);
        Check.due("still", x.look(7), 1);
        x.trade(0, 2, 0, 1, 0, 2);
        Check.due("what comes", x.ahead(1, 0, 1), 0);
        Check.due("what comes", x.ahead(1, 0, 2), 20);
        x.days(2);
        Check.due("PAID", x.claim(0, 0, 4), 1);
        Check.due("how many", x.event(0, 7), 0);
        Check.due("a", x.has(0, 0), 0);
        Check.due("a's purse", x.purse(0), -5);
        Check.due("b's purse", x.purse(1), 5);
        // issued is what came to HOLDERS, CLAIMS aside
        Check.due("issued", x.issued(0, 0), 54);
        Check.due("issued", x.issued(0, 1), 5);
        // by EVENTS, then by numbers
        x = Check.with("holder a;holder b;holder c;paper p;has c p 99;");
        x.trade(1, 0, 0, 10, 0, 9);
        x.trade(2, 0, 0, 6, 0, 9);
        x.gift(0, 11, 0, 1, 1, 1);
        x.gift(0, 21, 0, 1, 1, 1);
        x.days(1);
        Check.due("all wait", x.look(7), 4);
        x.trade(0, 2, 0, 15, 0, 1);
        x.days(1);
        Check.due("the first", x.claim(0, 0, 4), 1);
        Check.due("not the second", x.claim(0, 1, 4), 2);
        Check.due("not the third", x.claim(1, 0, 4), 2);
        Check.due("not the fourth", x.claim(1, 1, 4), 2);
        Check.due("left", x.has(0, 0), 5);
        x.trade(0, 2, 0, 13, 0, 1);
        x.days(1);
        Check.due("the second", x.claim(0, 1, 4), 1);
        Check.due("not the third", x.claim(1, 0, 4), 2);
        Check.due("the fourth", x.claim(1, 1, 4), 1);
        Check.due("left", x.has(0, 0), 0);
    }

    private static void rights() {
        RecordClaims x = Check.with("holder a;holder b;holder c;paper p;has a p 100;has b p 7;has c p 9;");
        x.rights(0, 23, 5020, 3, 2, 2, 4);
        x.trade(1, 0, 0, 10, 50, 5);
        x.trade(1, 0, 0, 10, 50, 5);
        Check.yes("a", x.choose(0, 0, 40, 1000));
        Check.yes("b", x.choose(0, 1, 5, 3));
        Check.yes("c", x.choose(0, 2, 7, 7));
        x.days(3);
        Check.due("WRITTEN", x.event(0, 5), 1);
        Check.due("claim", x.claim(0, 0, 5), 6);
        Check.due("no money", x.claim(0, 0, 6), 0);
        Check.due("not PAID", x.claim(0, 0, 4), 0);
        for (int what = 4; what <= 6; what++) {
            Check.due("0 till PAID", x.written(0, 0, what), 0);
        }
        x.days(1);
        // a: 66 - 6 - 6 = 54; b: 4 + 6 + 6 = 16; c: 6
        long[][] want = {{100, 80, 40, 1000, 40, 14, 0}, {7, 27, 5, 3, 5, 3, 8}, {9, 9, 7, 7, 6, 0, 0}};
        for (int h = 0; h < 3; h++) {
            for (int what = 0; what < 7; what++) {
                Check.due("written " + h + " " + what, x.written(0, h, what), want[h][what]);
            }
        }
        Check.due("a", x.has(0, 0), 140);
        Check.due("b", x.has(1, 0), 12);
        Check.due("c", x.has(2, 0), 15);
        Check.due("a's purse", x.purse(0), 14 * 20 - 40 * 5);
        Check.due("b's purse", x.purse(1), 3 * 20 - 5 * 5);
        Check.due("c's purse", x.purse(2), -30);
        Check.due("issued", x.issued(0, 0), 51);
        Check.due("issued", x.issued(0, 1), 80 + 35 - 30);
        Check.due("claim PAID", x.claim(0, 1, 4), 1);
        Check.due("PAID", x.event(0, 5), 2);
        // nobody chose
        x = Check.with("holder a;paper p;has a p 100;");
        x.rights(0, 11, 5020, 1, 1, 1, 1);
        x.days(1);
        Check.due("LAPSED", x.written(0, 0, 6), 100);
        Check.due("nothing", x.purse(0), 0);
    }

    private static void rightsThatAreWanting() {
        RecordClaims x = Check.with("holder a;holder b;paper p;has a p 10;has b p 50;");
        x.trade(1, 0, 0, 45, 0, 9);
        x.rights(0, 32, 4006, 2, 1, 1, 2);
        x.choose(0, 0, 9, 9);
        x.choose(0, 1, 0, 1);
        x.days(2);
        // a: 15 - 67 = -52; b: 75 + 67 = 142
        Check.due("wanting", x.written(0, 0, 6), -52);
        Check.due("none TAKEN", x.written(0, 0, 4), 0);
        Check.due("none SOLD", x.written(0, 0, 5), 0);
        Check.due("a", x.purse(0), -52 * 6);
        Check.due("a's shares", x.has(0, 0), 10);
        Check.due("b SOLD", x.written(0, 1, 5), 1);
        Check.due("b LAPSED", x.written(0, 1, 6), 141);
        Check.due("issued", x.issued(0, 1), 6 - 52 * 6);
        Check.due("issued", x.issued(0, 0), 0);
        Check.due("owed", x.written(0, 0, 1), -35);
    }

    private static void choices() {
        RecordClaims x = Check.with(THREE);
        x.rights(0, 11, 5020, 5, 2, 4, 6);
        x.money(0, 1, 1, 1, 1);
        x.rights(0, 11, 5020, 4, 4, 4, 4);
        x.rights(1, 11, 5020, 9, 9, 9, 9);
        x.turn(1, 0, 11, 0, 3);
        Check.due("0 at first", x.written(0, 0, 2) + x.written(0, 0, 3), 0);
        Check.yes("ahead", x.choose(0, 0, 999999999, 999999999));
        Check.due("take", x.written(0, 0, 2), 999999999);
        Check.due("sell", x.written(0, 0, 3), 999999999);
        Check.no("take", x.choose(0, 0, -1, 0));
        Check.no("take", x.choose(0, 0, 1000000000, 0));
        Check.no("sell", x.choose(0, 0, 0, -1));
        Check.no("sell", x.choose(0, 0, 0, 1000000000));
        Check.no("MONEY", x.choose(1, 0, 0, 0));
        Check.no("TURN", x.choose(4, 0, 0, 0));
        Check.no("no such event", x.choose(5, 0, 0, 0));
        Check.no("no such event", x.choose(-1, 0, 0, 0));
        Check.no("no such holder", x.choose(0, 3, 0, 0));
        Check.no("no such holder", x.choose(0, -1, 0, 0));
        int kept = x.look(8);
        Check.yes("the same again counts", x.choose(0, 0, 999999999, 999999999));
        Check.due("kept", x.look(8), Math.min(6, kept + 1));
        x.days(3);
        Check.due("DROPPED", x.event(3, 5), 3);
        Check.no("DROPPED", x.choose(3, 0, 0, 0));
        x.days(1);
        Check.no("PAID in UNTIL", x.choose(2, 0, 0, 0));
        x.days(1);
        Check.yes("in UNTIL", x.choose(0, 0, 3, 4));
        Check.due("in place", x.written(0, 0, 2), 3);
        Check.due("by text", Check.deeds(x, "choose 0 bo 5 6;"), 1);
        Check.due("take", x.written(0, 1, 2), 5);
        x.days(1);
        Check.no("PAID", x.choose(0, 0, 0, 0));
        // beyond UNTIL, not PAID
        x = Check.with(THREE);
        x.rights(0, 11, 5020, 4, 2, 4, 6);
        x.days(5);
        Check.no("beyond UNTIL", x.choose(0, 0, 0, 0));
    }

    private static void turns() {
        RecordClaims x = Check.with("holder a;holder b;paper p;paper q;has a p 17;has b p 4;has b q 1000;");
        x.trade(1, 0, 0, 5, 100, 4);
        x.trade(1, 0, 0, 1, 7, 4);
        x.trade(1, 0, 1, 5, 3, 4);
        x.trade(0, 1, 0, 2, 3, 1);
        x.money(1, 1, 2, 2, 2);
        x.turn(0, 1, 25, 3099, 2);
        x.money(1, 2, 2, 2, 2);
        x.days(1);
        Check.due("to come", x.event(1, 5), 0);
        x.days(1);
        // a: 19: 38 by 5: 7, 3 parts: 57 + 59 = 116; b: 2: 0, 4 parts: 6 + 79 = 85
        Check.due("a p", x.has(0, 0), 0);
        Check.due("b p", x.has(1, 0), 0);
        Check.due("a q", x.has(0, 1), 7);
        Check.due("b q", x.has(1, 1), 1000);
        Check.due("PAID", x.event(1, 5), 2);
        Check.due("no CLAIMS", x.event(1, 6), 0);
        Check.due("WRITTEN", x.written(1, 0, 0), 19);
        Check.due("OWED", x.written(1, 0, 1), 19);
        Check.due("q ahead of the turn", x.written(0, 0, 0), 0);
        Check.due("q behind the turn", x.written(2, 0, 0), 7);
        Check.due("issued", x.issued(1, 0), 7);
        Check.due("issued", x.issued(1, 1), 201);
        // TRADE 0: 10 by 5: 2, 15; TRADE 1: 2 parts: 3 + 39, TURNED; TRADE 3 was SETTLED; TRADE 2 is on q
        long[][] trades = {{1, 0, 1, 2, 85, 0, 4, 0, -1}, {1, 0, 1, 0, 7 - 42, 0, 4, 2, 2}, {1, 0, 1, 5, 3, 0, 4, 0, -1},
            {0, 1, 0, 2, 3, 0, 1, 1, 1}};
        for (int t = 0; t < 4; t++) {
            for (int what = 0; what < 9; what++) {
                Check.due("told " + t + " " + what, x.told(t, what), trades[t][what]);
            }
        }
        // MONEY on q: 0 gave a 0, b 1000; 2 gives a 14, b 2000, and the CLAIMS of OPEN TRADES on q
        Check.due("claims ahead", x.event(0, 6), 1);
        Check.due("claims behind", x.event(2, 6), 2);
        Check.due("a's purse", x.purse(0), -3 + 116 - 35 - 5 + 14 - 14);
        Check.due("b's purse", x.purse(1), 3 + 85 + 35 + 1000 + 5 + 2000 + 14);
        Check.due("open", x.look(5), 2);
        // amounts may go below 0
        x = Check.with("holder a;holder b;paper p;paper q;has a p 17;");
        x.trade(1, 0, 0, 5, 1, 4);
        x.turn(0, 1, 11, 999000, 2);
        x.days(2);
        Check.due("below 0", x.told(0, 4), 1 - 4995);
        x.days(2);
        Check.due("settled", x.purse(1), 4994);
    }

    private static void turnsDrop() {
        RecordClaims x = Check.with("holder a;holder b;paper p;paper q;has a p 17;");
        x.money(0, 1, 1, 5, 9);
        x.money(0, 1, 1, 6, 9);
        x.turn(0, 1, 11, 0, 5);
        x.money(0, 1, 1, 5, 5);
        x.money(1, 1, 1, 6, 6);
        x.turn(0, 1, 11, 0, 7);
        x.gift(0, 11, 0, 1, 4, 8);
        x.money(1, 1, 1, 5, 5);
        x.days(4);
        Check.due("not yet", x.event(1, 5), 0);
        x.days(1);
        int[] state = {1, 3, 2, 3, 0, 3, 1, 2};
        for (int e = 0; e < 8; e++) {
            Check.due("event " + e, x.event(e, 5), state[e]);
        }
        x.days(4);
        int[] later = {2, 3, 2, 3, 2, 3, 2, 2};
        for (int e = 0; e < 8; e++) {
            Check.due("event " + e + " later", x.event(e, 5), later[e]);
        }
        Check.due("p comes by the GIFT", x.has(0, 0), 17);
        Check.due("q", x.has(0, 1), 17);
        Check.due("purse", x.purse(0), 17 * 3);
    }

    private static void days() {
        RecordClaims x = new RecordClaims();
        Check.due("0", x.days(0), -1);
        Check.due("-1", x.days(-1), -1);
        Check.due("100", x.days(100), -1);
        Check.due("least", x.days(Integer.MIN_VALUE), -1);
        Check.due("most", x.days(Integer.MAX_VALUE), -1);
        Check.due("none goes by", x.look(4), 0);
        for (int i = 1; i <= 10; i++) {
            Check.due("99", x.days(99), 99 * i);
        }
        Check.due("beyond 999", x.days(10), -1);
        Check.due("none goes by", x.look(4), 990);
        Check.due("999", x.days(9), 999);
        Check.due("beyond", x.days(1), -1);
        Check.due("kept", x.look(8), 6);
    }

    private static void undoing() {
        RecordClaims x = Check.with(THREE);
        Check.due("none", x.undo(), -1);
        x.trade(1, 0, 0, 10, 50, 1);
        x.money(0, 4, 1, 2, 4);
        x.gift(0, 13, 7, 6, 6, 7);
        x.rights(0, 21, 5020, 3, 2, 2, 4);
        x.turn(0, 1, 13, 2004, 7);
        x.choose(2, 0, 7, 8);
        Check.due("six", x.look(8), 6);
        x.days(2);
        Check.due("six at most", x.look(8), 6);
        Check.due("what can't be is none", x.days(0), -1);
        Check.due("six", x.look(8), 6);
        Check.due("settled", x.has(1, 0), 17);
        Check.due("days", x.undo(), 5);
        Check.due("not settled", x.has(1, 0), 7);
        Check.due("purse", x.purse(0), 0);
        Check.due("not WRITTEN", x.written(0, 0, 0), 0);
        Check.due("OPEN", x.told(0, 7), 0);
        Check.due("chosen", x.written(2, 0, 2), 7);
        Check.due("choice", x.undo(), 4);
        Check.due("not chosen", x.written(2, 0, 2), 0);
        Check.due("turn", x.undo(), 3);
        Check.due("events", x.look(3), 3);
        Check.due("rights", x.undo(), 2);
        Check.due("gift", x.undo(), 1);
        Check.due("money", x.undo(), 0);
        Check.due("events", x.look(3), 0);
        Check.due("trades", x.look(2), 1);
        Check.due("the seventh is gone", x.undo(), -1);
        Check.due("trades", x.look(2), 1);
        // DEEDS are one; those of which none is done are none; asking changes nothing
        Check.due("deeds", Check.deeds(x, "days 1;days 1;trade bo al p 1 1;days 0;"), 3);
        Check.due("one", x.look(8), 1);
        Check.due("none done", Check.deeds(x, "days 0;"), 0);
        Check.due("one", x.look(8), 1);
        x.ahead(0, 0, 99);
        x.purseAhead(0, 99);
        x.waits(1);
        Check.due("day", x.look(4), 2);
        Check.due("undo", x.undo(), 0);
        Check.due("day", x.look(4), 0);
        Check.due("trades", x.look(2), 1);
        // what is undone leaves THE TAPE and the FAULT
        Check.due("fault", Check.deeds(x, "days"), -1);
        x.days(1);
        Check.put(x, "ab");
        Check.due("undo", x.undo(), 0);
        Check.due("tape", x.look(9), 2);
        Check.due("fault", x.fault(0), 1);
        Check.due("place", x.fault(1), 4);
        // a choice done anew behind an undone EVENT starts at 0
        x = Check.with(THREE);
        x.rights(0, 21, 5020, 3, 2, 2, 4);
        x.choose(0, 0, 7, 8);
        x.undo();
        x.undo();
        x.rights(0, 21, 5020, 3, 2, 2, 4);
        Check.due("0 at first", x.written(0, 0, 2), 0);
        x.choose(0, 0, 7, 8);
        Check.book(x, THREE);
        x.rights(0, 21, 5020, 3, 2, 2, 4);
        Check.due("0 in a new BOOK", x.written(0, 0, 2), 0);
    }

    private static void answersOfNone() {
        RecordClaims x = Check.with(THREE);
        x.trade(1, 0, 0, 10, 50, 3);
        x.money(0, 4, 1, 2, 4);
        x.days(2);
        Check.due("written", x.written(0, 0, 7), NO);
        Check.due("written", x.written(0, 0, -1), NO);
        Check.due("written", x.written(1, 0, 0), NO);
        Check.due("written", x.written(-1, 0, 0), NO);
        Check.due("written", x.written(0, 3, 0), NO);
        Check.due("written", x.written(0, -1, 0), NO);
        Check.due("claim", x.claim(0, 0, 7), -1);
        Check.due("claim", x.claim(0, 0, -1), -1);
        Check.due("claim", x.claim(0, 1, 0), -1);
        Check.due("claim", x.claim(0, -1, 0), -1);
        Check.due("claim", x.claim(1, 0, 0), -1);
        Check.due("claim", x.claim(-1, 0, 0), -1);
        Check.due("issued", x.issued(0, 2), NO);
        Check.due("issued", x.issued(0, -1), NO);
        Check.due("issued", x.issued(1, 0), NO);
        Check.due("issued", x.issued(-1, 0), NO);
    }
}
