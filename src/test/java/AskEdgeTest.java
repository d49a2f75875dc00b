import java.util.ArrayList;
import java.util.List;

/** Sentences of the document that name an edge: what is asked of the state (promises 15 to 29). */
public final class AskEdgeTest {
    private static final long NO = Long.MIN_VALUE;
    private static final String THREE = "holder al;holder bo;holder cy;paper p;paper q;has al p 100;has bo p 7;has cy q 30;";
    private static final String TEN = "holder a;holder b;holder c;holder d;holder e;holder f;holder g;holder h;holder i;holder j;paper p;";
    private static final int[] FAR = {Integer.MIN_VALUE, Integer.MIN_VALUE + 1, -1000, -10, -3, -2, 60, 61, 100, 480, 481, 1000,
        Integer.MAX_VALUE - 1, Integer.MAX_VALUE};

    private interface Ask {
        long of(int[] v);
    }

    public static void main(String[] args) {
        noneSuch();
        allThere();
        claimsOfEachEvent();
        waitsOfTheLastEvent();
        shares();
        purses();
        toldOfEachState();
        eventOfEachState();
        writtenTillPaid();
        claimsOfEachState();
        issuedAsItComes();
        netsOutOfNothing();
        netsOne();
        netsByThirds();
        netsAllTen();
        netsOfManyAgainstOne();
        worthsAtTheEnds();
        worthsInLeastTerms();
        worthsOfEachState();
        aheadOfNow();
        aheadAsItComes();
        aheadAtTheEnd();
        waitsFor99();
        waitsTillTheEnd();
        wantsOneMore();
        carriesByDays();
        carriesWhatIsToCome();
        worstOfSeveral();
        Check.end("AskEdgeTest");
    }

    /** Three HOLDERS, two PAPERS, a TRADE of each state, an EVENT of each kind, one CLAIM of each EVENT but the TURN. */
    private static RecordClaims full() {
        RecordClaims x = Check.with("holder a;holder b;holder c;paper p;paper q;has a p 10;");
        x.trade(1, 0, 0, 4, 0, 9);
        x.trade(1, 0, 0, 1, 0, 1);
        x.money(0, 1, 1, 2, 3);
        x.gift(0, 11, 1, 1, 2, 3);
        x.rights(0, 11, 1001, 3, 1, 2, 3);
        x.turn(1, 0, 11, 1001, 5);
        x.days(4);
        return x;
    }

    /** Each number may be 0 .. most; of any other the answer is the one for what is none such. */
    private static void only(String what, Ask ask, int[] base, int k, int most, long none) {
        List<Integer> tries = new ArrayList<>(List.of(-1, most + 1, most + 2, most + 10));
        for (int far : FAR) {
            if (far < 0 || far > most) {
                tries.add(far);
            }
        }
        for (int n : tries) {
            int[] v = base.clone();
            v[k] = n;
            Check.due(what + " " + k + " is " + n, ask.of(v), none);
        }
        for (int n = 0; n <= most; n++) {
            int[] v = base.clone();
            v[k] = n;
            Check.yes(what + " " + k + " is " + n, ask.of(v) != none);
        }
    }

    /** "if there is none such, or another what": of each call, of each of its numbers. */
    private static void noneSuch() {
        RecordClaims x = full();
        String was = Snapshot.of(x);
        String rest = Snapshot.ofRest(x);
        only("15: has", v -> x.has(v[0], v[1]), new int[2], 0, 2, -1);
        only("15: has", v -> x.has(v[0], v[1]), new int[2], 1, 1, -1);
        only("16: purse", v -> x.purse(v[0]), new int[1], 0, 2, NO);
        only("17: told", v -> x.told(v[0], v[1]), new int[2], 0, 1, NO);
        only("17: told", v -> x.told(v[0], v[1]), new int[2], 1, 8, NO);
        only("18: event", v -> x.event(v[0], v[1]), new int[2], 0, 3, -1);
        only("18: event", v -> x.event(v[0], v[1]), new int[2], 1, 7, -1);
        only("19: written", v -> x.written(v[0], v[1], v[2]), new int[3], 0, 3, NO);
        only("19: written", v -> x.written(v[0], v[1], v[2]), new int[3], 1, 2, NO);
        only("19: written", v -> x.written(v[0], v[1], v[2]), new int[3], 2, 6, NO);
        only("20: claim", v -> x.claim(v[0], v[1], v[2]), new int[3], 0, 2, -1);
        only("20: claim", v -> x.claim(v[0], v[1], v[2]), new int[3], 1, 0, -1);
        only("20: claim", v -> x.claim(v[0], v[1], v[2]), new int[3], 2, 6, -1);
        only("21: issued", v -> x.issued(v[0], v[1]), new int[2], 0, 3, NO);
        only("21: issued", v -> x.issued(v[0], v[1]), new int[2], 1, 1, NO);
        only("22: net", v -> x.net(v[0], v[1], v[2]), new int[3], 0, 2, -1);
        only("22: net", v -> x.net(v[0], v[1], v[2]), new int[] {0, 0, 0}, 2, 2, -1);
        only("22: net, how many", v -> x.net(v[0], -1, v[1]), new int[2], 0, 3, -1);
        only("23: worth", v -> x.worth(v[0], v[1], v[2]), new int[3], 0, 2, NO);
        only("23: worth", v -> x.worth(v[0], v[1], v[2]), new int[3], 2, 1, NO);
        only("23: worth", v -> x.worth(v[0], v[1], v[2]), new int[] {1, 0, 0}, 2, 1, NO);
        only("23: worth", v -> x.worth(v[0], v[1], v[2]), new int[] {2, 0, 0}, 2, 1, NO);
        only("24: ahead", v -> x.ahead(v[0], v[1], v[2]), new int[3], 0, 2, -1);
        only("24: ahead", v -> x.ahead(v[0], v[1], v[2]), new int[3], 1, 1, -1);
        only("24: ahead", v -> x.ahead(v[0], v[1], v[2]), new int[3], 2, 99, -1);
        only("25: purseAhead", v -> x.purseAhead(v[0], v[1]), new int[2], 0, 2, NO);
        only("25: purseAhead", v -> x.purseAhead(v[0], v[1]), new int[2], 1, 99, NO);
        only("26: waits", v -> x.waits(v[0]), new int[1], 0, 1, -2);
        only("27: wants", v -> x.wants(v[0], v[1]), new int[2], 0, 2, -1);
        only("27: wants", v -> x.wants(v[0], v[1]), new int[2], 1, 1, -1);
        only("28: carries", v -> x.carries(v[0], 1 + v[1], v[2]), new int[3], 0, 1, -1);
        only("28: carries", v -> x.carries(v[0], 1 + v[1], v[2]), new int[3], 1, 8, -1);
        only("28: carries", v -> x.carries(v[0], 1 + v[1], v[2]), new int[3], 2, 2, -1);
        only("29: worst", v -> x.worst(v[0], v[1]), new int[2], 0, 2, -1);
        only("29: worst", v -> x.worst(v[0], v[1]), new int[2], 1, 1, -1);
        for (int far : FAR) {
            if (far != -1) {
                Check.due("22: net of the i-th", x.net(0, far, 0), -1);
                Check.due("22: net of the i-th", x.net(0, far, far), -1);
            }
            for (int p : new int[] {far, -1, 100000}) {
                if (p < 0 || p > 99999) {
                    for (int e = 0; e < 4; e++) {
                        Check.due("23: worth at " + p, x.worth(e, p, 0), NO);
                        Check.due("23: worth at " + p, x.worth(e, p, 1), NO);
                    }
                }
            }
        }
        Check.due("asking does nothing", Snapshot.of(x), was);
        Check.due("asking does nothing", Snapshot.ofRest(x), rest);
    }

    /** HOLDERS 0 .. 9, PAPERS 0 .. 4, TRADES 0 .. 59, EVENTS 0 .. 7, CLAIMS 0 .. 59: the last ones answer. */
    private static void allThere() {
        RecordClaims x = Check.with(TEN + "paper q;paper r;paper s;paper t;has j t 50;has i t 1;");
        for (int e = 0; e < 8; e++) {
            x.gift(4, 11, 0, 1, 1, 2);
        }
        for (int t = 0; t < 60; t++) {
            x.trade(8, 9, 4, 1, 1, t < 30 ? 9 : 8);
        }
        x.days(2);
        Check.due("18: all CLAIMS", x.event(7, 6), 60);
        // 50 come by each, 60 go: of the first five EVENTS 10 of those that were there, then there are none
        Check.due("18: ten WAIT", x.event(7, 7), 10);
        Check.due("20: the last one", x.claim(7, 59, 3), 59);
        Check.due("20: none behind it", x.claim(7, 60, 3), -1);
        Check.due("20: the last one WAITS", x.claim(7, 59, 4), 2);
        Check.due("19: the last HOLDER", x.written(7, 9, 0), 50);
        Check.due("19: OWED below 0", x.written(7, 9, 1), -10);
        Check.due("19: OWED", x.written(7, 8, 1), 61);
        Check.due("29: the last HOLDER", x.worst(7, 0), 9);
        Check.due("29: as many", x.worst(7, 1), 60);
        Check.due("22: one pays", x.net(7, -1, 0), 1);
        Check.due("22: who", x.net(7, 0, 0), 9);
        Check.due("22: whom", x.net(7, 0, 1), 8);
        Check.due("22: all", x.net(7, 0, 2), 60);
        Check.due("28: none is to come", x.carries(4, 9, 0), 0);
        Check.due("26: the last TRADE", x.waits(59), -1);
        Check.due("27: as many", x.wants(9, 4), 60);
        for (int e = 0; e < 7; e++) {
            Check.due("18: of EVENT " + e, x.event(e, 6), 60);
        }
        Check.due("33: in all", x.look(7), 30);
    }

    /** "CLAIM i of an EVENT": of each EVENT its own, of sixty TRADES. */
    private static void claimsOfEachEvent() {
        RecordClaims x = Check.with(TEN + "paper q;paper r;");
        for (int e = 0; e < 6; e++) {
            x.money(e % 3, 1, 1, 1 + e / 3, 5);
        }
        for (int t = 0; t < 60; t++) {
            x.trade(t % 10, (t + 1) % 10, t % 3, 1 + t, 0, 9);
        }
        for (int day = 1; day <= 5; day++) {
            x.days(1);
            for (int e = 0; e < 6; e++) {
                boolean isWritten = day > e / 3;
                Check.due("18: CLAIMS of " + e + " in " + day, x.event(e, 6), isWritten ? 20 : 0);
                for (int i = 0; i < 20 && isWritten; i++) {
                    int t = 3 * i + e % 3;
                    claim(x, e, i, (t + 1) % 10, t % 10, 1 + t, t, day == 5 ? 1 : 0, 0, 1 + t);
                }
            }
        }
    }

    /** "how many of these WAIT": of the last EVENT, less as they are PAID, and as it was when that is undone. */
    private static void waitsOfTheLastEvent() {
        RecordClaims x = Check.with("holder a;holder b;holder c;paper p;has c p 100;");
        for (int e = 0; e < 7; e++) {
            x.money(0, 1, 1, 1, 2);
        }
        x.gift(0, 11, 0, 1, 1, 2);
        for (int t = 0; t < 20; t++) {
            x.trade(1, 0, 0, 5, 0, 9);
        }
        for (int day = 0; day < 2; day++) {
            Check.due("18: ahead of PAY", x.event(7, 7), 0);
            x.days(1);
        }
        for (int left = 20; left > 0; left -= 4) {
            Check.due("18: that WAIT", x.event(7, 7), left);
            Check.due("18: of another EVENT", x.event(6, 7), 0);
            Check.due("33: in all", x.look(7), left);
            Check.due("20: the last one WAITS", x.claim(7, 19, 4), 2);
            x.trade(0, 2, 0, 23, 0, 1);
            long has = x.has(1, 0);
            x.days(1);
            x.undo();
            Check.due("18: undone", x.event(7, 7), left);
            Check.due("33: undone", x.look(7), left);
            Check.due("24: four of five SHARES each come of 23", x.ahead(1, 0, 1), has + 20);
            x.days(1);
            x.undo();
            x.undo();
            x.trade(0, 2, 0, 20, 0, 1);
            x.days(1);
        }
        Check.due("18: none WAITS", x.event(7, 7), 0);
        Check.due("33: none WAITS", x.look(7), 0);
        Check.due("20: the last one is PAID", x.claim(7, 19, 4), 1);
        x.undo();
        Check.due("18: undone", x.event(7, 7), 4);
        Check.due("20: undone", x.claim(7, 19, 4), 2);
        x.days(1);
        Check.due("18: none WAITS", x.event(7, 7), 0);
    }

    private static void shares() {
        RecordClaims x = Check.with(THREE);
        Check.due("15: 0 or more", x.has(0, 1), 0);
        Check.due("15: SHARES", x.has(0, 0), 100);
        Check.due("15: the last HOLDER's last PAPER", x.has(2, 1), 30);
        x.trade(1, 0, 0, 100, 0, 1);
        x.days(1);
        Check.due("15: all gone", x.has(0, 0), 0);
        Check.due("15: all come", x.has(1, 0), 107);
    }

    private static void purses() {
        RecordClaims x = Check.with(THREE);
        for (int h = 0; h < 3; h++) {
            Check.due("16: 0 at first", x.purse(h), 0);
        }
        for (int i = 0; i < 50; i++) {
            x.trade(1, 0, 0, 2, 99999999, 1);
        }
        x.days(1);
        Check.due("16: beyond an int", x.purse(0), 4999999950L);
        Check.due("16: below 0", x.purse(1), -4999999950L);
        Check.due("16: of none of these", x.purse(2), 0);
    }

    private static void told(RecordClaims x, int trade, long... want) {
        for (int what = 0; what < want.length; what++) {
            Check.due("17: TRADE " + trade + " what " + what, x.told(trade, what), want[what]);
        }
    }

    /** "8 the DAY in which it was SETTLED or TURNED (NONE)". */
    private static void toldOfEachState() {
        RecordClaims x = Check.with(THREE);
        x.days(3);
        x.trade(2, 1, 0, 7, 99999999, 1);
        x.trade(1, 0, 0, 100000, 0, 9);
        x.trade(0, 2, 0, 1, 5, 3);
        told(x, 0, 2, 1, 0, 7, 99999999, 3, 4, 0, -1);
        told(x, 1, 1, 0, 0, 100000, 0, 3, 12, 0, -1);
        x.days(1);
        told(x, 0, 2, 1, 0, 7, 99999999, 3, 4, 1, 4);
        x.turn(0, 1, 19, 3000, 5);
        x.days(1);
        told(x, 2, 0, 2, 1, 0, 2, 3, 6, 2, 5);
        told(x, 1, 1, 0, 1, 11111, -300000, 3, 12, 0, -1);
        told(x, 0, 2, 1, 0, 7, 99999999, 3, 4, 1, 4);
        x.days(50);
        told(x, 0, 2, 1, 0, 7, 99999999, 3, 4, 1, 4);
        told(x, 1, 1, 0, 1, 11111, -300000, 3, 12, 0, -1);
        told(x, 2, 0, 2, 1, 0, 2, 3, 6, 2, 5);
    }

    private static void event(RecordClaims x, int event, int... want) {
        for (int what = 0; what < want.length; what++) {
            Check.due("18: EVENT " + event + " what " + what, x.event(event, what), want[what]);
        }
    }

    /** "5 0 it is to come, 1 WRITTEN, 2 PAID, 3 DROPPED". */
    private static void eventOfEachState() {
        RecordClaims x = Check.with(THREE);
        x.trade(1, 0, 0, 900, 0, 9);
        x.money(0, 1, 2, 3, 4);
        x.gift(0, 11, 0, 2, 3, 5);
        x.rights(0, 11, 0, 6, 2, 3, 6);
        x.turn(0, 1, 11, 0, 7);
        x.money(0, 1, 8, 9, 10);
        int[] claims = {0, 0, 0, 1, 1, 1, 1, 1, 1};
        for (int day = 0; day <= 8; day++) {
            int past = day >= 3 ? 1 : 0;
            event(x, 0, 0, 0, 2, 3, 4, day >= 4 ? 2 : past, claims[day], 0);
            event(x, 1, 1, 0, 2, 3, 5, day >= 5 ? 2 : past, claims[day], day >= 5 ? 1 : 0);
            event(x, 2, 2, 0, 2, 3, 6, day >= 6 ? 2 : past, claims[day], 0);
            event(x, 3, 3, 0, 7, 7, 7, day >= 7 ? 2 : 0, 0, 0);
            event(x, 4, 0, 0, 8, 9, 10, day >= 7 ? 3 : 0, 0, 0);
            x.days(1);
        }
        x.days(9);
        event(x, 4, 0, 0, 8, 9, 10, 3, 0, 0);
    }

    /** "4 to 6 are 0 till PAID". */
    private static void writtenTillPaid() {
        RecordClaims x = Check.with(THREE);
        x.trade(1, 0, 0, 101, 0, 9);
        x.rights(0, 11, 1002, 2, 1, 2, 3);
        x.choose(0, 1, 5, 6);
        for (int day = 0; day <= 4; day++) {
            boolean isWritten = day >= 2;
            boolean isPaid = day >= 3;
            Check.due("19: WRITTEN in " + day, x.written(0, 0, 0), isWritten ? 100 : 0);
            Check.due("19: OWED in " + day, x.written(0, 0, 1), isWritten ? -1 : 0);
            Check.due("19: OWED in " + day, x.written(0, 1, 1), isWritten ? 108 : 0);
            Check.due("19: to take in " + day, x.written(0, 1, 2), 5);
            Check.due("19: to sell in " + day, x.written(0, 1, 3), 6);
            Check.due("19: TAKEN in " + day, x.written(0, 1, 4), isPaid ? 5 : 0);
            Check.due("19: SOLD in " + day, x.written(0, 1, 5), isPaid ? 6 : 0);
            Check.due("19: LAPSED in " + day, x.written(0, 1, 6), isPaid ? 97 : 0);
            Check.due("19: wanting in " + day, x.written(0, 0, 6), isPaid ? -1 : 0);
            for (int what = 0; what <= 6; what++) {
                Check.due("19: nothing of another one", x.written(0, 2, what), 0);
            }
            x.days(1);
        }
        // of no RIGHTS 2 to 6 stay 0
        x = full();
        for (int e : new int[] {0, 1, 3}) {
            for (int what = 2; what <= 6; what++) {
                Check.due("19: none of no RIGHTS", x.written(e, 0, what) + x.written(e, 1, what), 0);
            }
        }
        Check.due("19: a TURN is to come", x.written(3, 0, 0), 0);
    }

    private static void claim(RecordClaims x, int event, int i, int... want) {
        for (int what = 0; what < want.length; what++) {
            Check.due("20: CLAIM " + i + " of " + event + " what " + what, x.claim(event, i, what), want[what]);
        }
    }

    /** "4 0 it isn't PAID yet, 1 it is, 2 it WAITS, 5 the SHARES, 6 the MONEY that go with it". */
    private static void claimsOfEachState() {
        RecordClaims x = Check.with(THREE);
        x.trade(1, 0, 0, 7, 0, 9);
        x.trade(2, 1, 0, 500, 0, 9);
        x.trade(0, 1, 1, 1, 0, 9);
        x.money(0, 3, 1, 1, 2);
        x.gift(0, 23, 10, 1, 1, 2);
        x.rights(0, 32, 4005, 2, 1, 1, 2);
        Check.due("20: none ahead of WRITING", x.claim(0, 0, 0), -1);
        for (int day = 1; day <= 2; day++) {
            x.days(1);
            int paid = day - 1;
            claim(x, 0, 0, 0, 1, 7, 0, paid, 0, 21);
            claim(x, 0, 1, 1, 2, 500, 1, paid, 0, 1500);
            claim(x, 1, 0, 0, 1, 7, 0, paid, 4, 6);
            claim(x, 1, 1, 1, 2, 500, 1, 2 * paid, 333, 3);
            claim(x, 2, 0, 0, 1, 7, 0, paid, 10, 0);
            claim(x, 2, 1, 1, 2, 500, 1, paid, 750, 0);
            for (int e = 0; e < 3; e++) {
                claim(x, e, 2, -1, -1, -1, -1, -1, -1, -1);
            }
        }
        // CLAIMS are for what was, whatever becomes of the TRADE
        x.turn(0, 1, 21, 0, 3);
        x.days(1);
        Check.due("20: the TRADE's SHARES", x.told(0, 3), 14);
        claim(x, 0, 0, 0, 1, 7, 0, 1, 0, 21);
        x.trade(1, 0, 0, 700, 0, 9);
        claim(x, 1, 1, 1, 2, 500, 1, 2, 333, 3);
    }

    /** "of a TURN those of the other PAPER"; "less what they paid for SHARES TAKEN or wanted; CLAIMS, TRADES aside". */
    private static void issuedAsItComes() {
        RecordClaims x = Check.with(THREE);
        x.trade(2, 1, 0, 9, 1, 9);
        x.money(0, 2, 1, 1, 2);
        x.gift(0, 12, 8, 1, 1, 2);
        x.rights(0, 11, 5003, 1, 1, 1, 2);
        x.choose(2, 0, 10, 20);
        x.turn(0, 1, 21, 4000, 3);
        long[][] want = {{0, 0, 0, 0, 0, 0, 0, 0}, {0, 0, 0, 0, 0, 0, 0, 0}, {0, 214, 53, 4, 10, -50 + 60 - 6, 0, 0},
            {0, 214, 53, 4, 10, 4, 2 * 170, 4 * 170}, {0, 214, 53, 4, 10, 4, 2 * 170, 4 * 170}};
        for (int day = 0; day <= 4; day++) {
            for (int e = 0; e < 4; e++) {
                Check.due("21: SHARES of " + e + " in " + day, x.issued(e, 0), want[day][2 * e]);
                Check.due("21: MONEY of " + e + " in " + day, x.issued(e, 1), want[day][2 * e + 1]);
            }
            x.days(1);
        }
    }

    private static RecordClaims claims(String book, int... fourEach) {
        RecordClaims x = Check.with(book);
        x.money(0, 1, 1, 1, 9);
        for (int i = 0; i < fourEach.length; i += 3) {
            Check.due("a TRADE", x.trade(fourEach[i + 1], fourEach[i], 0, fourEach[i + 2], 0, 9), i / 3);
        }
        x.days(1);
        Check.due("CLAIMS", x.event(0, 6), fourEach.length / 3);
        return x;
    }

    private static void net(RecordClaims x, long... threeEach) {
        int count = threeEach.length / 3;
        for (int what : new int[] {0, 1, 2, 3, -1, 99, Integer.MIN_VALUE, Integer.MAX_VALUE}) {
            Check.due("22: how many, whatever what", x.net(0, -1, what), count);
            for (int i = 0; i < count; i++) {
                Check.due("22: " + i + " what " + what, x.net(0, i, what), what >= 0 && what < 3 ? threeEach[3 * i + what] : -1);
            }
            Check.due("22: none behind the last", x.net(0, count, what), -1);
            Check.due("22: far behind it", x.net(0, Integer.MAX_VALUE, what), -1);
            Check.due("22: below NONE", x.net(0, -2, what), -1);
            Check.due("22: below NONE", x.net(0, Integer.MIN_VALUE, what), -1);
        }
    }

    /** "as long as somebody is owed": nobody is. */
    private static void netsOutOfNothing() {
        net(claims(TEN));
        net(claims(TEN, 0, 1, 5, 1, 0, 5));
        net(claims(TEN, 0, 1, 5, 1, 2, 5, 2, 0, 5));
        net(claims(TEN, 9, 8, 1, 8, 7, 1, 7, 9, 1));
        RecordClaims x = Check.with(TEN);
        Check.due("22: no EVENT", x.net(0, -1, 0), -1);
        x.trade(1, 0, 0, 3, 0, 9);
        x.money(0, 1, 3, 3, 9);
        x.turn(0, 0, 11, 0, 3);
        Check.due("22: to come", x.net(0, -1, 0), 0);
        Check.due("22: to come", x.net(0, 0, 0), -1);
        Check.due("22: no such EVENT", x.net(1, -1, 0), -1);
        Check.due("22: no such EVENT", x.net(Integer.MAX_VALUE, -1, 0), -1);
    }

    /** One SHARE; the first HOLDER, the last one, on either side. */
    private static void netsOne() {
        net(claims(TEN, 0, 1, 1), 0, 1, 1);
        net(claims(TEN, 1, 0, 1), 1, 0, 1);
        net(claims(TEN, 9, 0, 1), 9, 0, 1);
        net(claims(TEN, 0, 9, 1), 0, 9, 1);
        net(claims(TEN, 8, 9, 100000), 8, 9, 100000);
        net(claims(TEN, 0, 1, 100000, 1, 0, 99999), 0, 1, 1);
        net(claims(TEN, 0, 1, 99999, 1, 0, 100000), 1, 0, 1);
    }

    /** "the first one who owes pays the first one who is owed, as much as both have". */
    private static void netsByThirds() {
        // 0 owes 3, 1 is owed 3, so that what goes between them is one payment less
        net(claims(TEN, 0, 1, 3, 2, 3, 3), 0, 1, 3, 2, 3, 3);
        net(claims(TEN, 0, 3, 3, 2, 1, 3), 0, 1, 3, 2, 3, 3);
        net(claims(TEN, 0, 1, 4, 2, 1, 2, 2, 3, 5), 0, 1, 4, 2, 1, 2, 2, 3, 5);
        net(claims(TEN, 0, 3, 5, 2, 1, 4), 0, 1, 4, 0, 3, 1, 2, 3, 4);
        net(claims(TEN, 0, 3, 4, 2, 1, 5), 0, 1, 4, 2, 1, 1, 2, 3, 4);
        // who owes and is owed is taken together
        net(claims(TEN, 0, 1, 5, 1, 2, 3), 0, 1, 2, 0, 2, 3);
        net(claims(TEN, 0, 1, 3, 1, 2, 5), 0, 2, 3, 1, 2, 2);
        net(claims(TEN, 0, 1, 5, 1, 2, 5), 0, 2, 5);
    }

    /** Nine payments, the most that ten can need. */
    private static void netsAllTen() {
        int[] each = new int[27];
        long[] want = new long[27];
        for (int i = 0; i < 9; i++) {
            each[3 * i] = i;
            each[3 * i + 1] = 9;
            each[3 * i + 2] = i + 1;
            want[3 * i] = i;
            want[3 * i + 1] = 9;
            want[3 * i + 2] = i + 1;
        }
        net(claims(TEN, each), want);
        for (int i = 0; i < 9; i++) {
            each[3 * i] = 0;
            each[3 * i + 1] = 9 - i;
            each[3 * i + 2] = 100 - i;
            want[3 * i] = 0;
            want[3 * i + 1] = i + 1;
            want[3 * i + 2] = 92 + i;
        }
        net(claims(TEN, each), want);
        // 0 .. 4 owe 20 each, 5 .. 9 are owed 4, 32, 4, 32, 28
        net(claims(TEN, 0, 5, 4, 0, 6, 16, 1, 6, 16, 1, 7, 4, 2, 8, 20, 3, 8, 12, 3, 9, 8, 4, 9, 20), 0, 5, 4, 0, 6, 16, 1, 6, 16, 1, 7,
                4, 2, 8, 20, 3, 8, 12, 3, 9, 8, 4, 9, 20);
    }

    /** Sixty CLAIMS of the most SHARES. */
    private static void netsOfManyAgainstOne() {
        int[] each = new int[180];
        for (int i = 0; i < 60; i++) {
            each[3 * i] = 1;
            each[3 * i + 1] = 0;
            each[3 * i + 2] = 100000;
        }
        RecordClaims x = claims(TEN, each);
        net(x, 1, 0, 6000000);
        Check.due("19: OWED", x.written(0, 0, 1), 6000000);
        Check.due("19: OWED below 0", x.written(0, 1, 1), -6000000);
        Check.due("29: in all", x.worst(0, 1), 6000000);
        Check.due("27: in all", x.wants(1, 0), 6000000);
    }

    private static void worth(RecordClaims x, int event, int p, long above, long below) {
        Check.due("23: above, of " + event + " at " + p, x.worth(event, p, 0), above);
        Check.due("23: below, of " + event + " at " + p, x.worth(event, p, 1), below);
    }

    /** "p (0 .. 99999)"; "0 by 1 for 0". */
    private static void worthsAtTheEnds() {
        RecordClaims x = Check.with(THREE);
        x.money(0, 999, 1, 1, 1);
        x.gift(0, 99, 0, 1, 1, 1);
        x.rights(0, 99, 999999, 1, 1, 1, 1);
        x.rights(0, 91, 0, 1, 1, 1, 1);
        x.gift(0, 19, 0, 1, 1, 1);
        worth(x, 0, 0, -999, 1);
        worth(x, 0, 1, -998, 1);
        worth(x, 0, 998, -1, 1);
        worth(x, 0, 999, 0, 1);
        worth(x, 0, 1000, 1, 1);
        worth(x, 0, 99999, 99000, 1);
        worth(x, 1, 0, 0, 1);
        worth(x, 1, 1, 1, 2);
        worth(x, 1, 2, 1, 1);
        worth(x, 1, 99999, 99999, 2);
        worth(x, 2, 0, 999, 2);
        worth(x, 2, 99999, 50499, 1);
        worth(x, 3, 0, 0, 1);
        worth(x, 3, 10, 1, 1);
        worth(x, 3, 99999, 99999, 10);
        worth(x, 4, 99999, 899991, 10);
    }

    /** Of each a and b, at some p: the fraction is the one that is due, and no number divides both. */
    private static void worthsInLeastTerms() {
        for (int a = 1; a <= 9; a++) {
            for (int b = 1; b <= 9; b++) {
                RecordClaims x = Check.with(THREE);
                x.gift(0, 10 * a + b, 3, 1, 1, 1);
                x.rights(0, 10 * a + b, 6000 * a, 1, 1, 1, 1);
                for (int p = 0; p <= 120; p++) {
                    least(x, 0, p, (long) b * p, a + b);
                    least(x, 1, p, (long) b * p + a * 6L * a, a + b);
                }
                least(x, 0, 99999, b * 99999L, a + b);
                least(x, 1, 99998, b * 99998L + a * 6L * a, a + b);
            }
        }
    }

    private static void least(RecordClaims x, int event, int p, long above, long below) {
        long common = below;
        while (above % common != 0 || below % common != 0) {
            common--;
        }
        worth(x, event, p, above / common, below / common);
    }

    /** Of an EVENT that is to come, WRITTEN, PAID, DROPPED; of a TURN never. */
    private static void worthsOfEachState() {
        RecordClaims x = Check.with(THREE);
        x.money(0, 4, 1, 1, 2);
        x.gift(0, 12, 9, 3, 3, 9);
        x.turn(0, 1, 11, 0, 2);
        for (int day = 0; day < 4; day++) {
            worth(x, 0, 10, 6, 1);
            worth(x, 1, 10, 20, 3);
            worth(x, 2, 10, NO, NO);
            x.days(1);
        }
        Check.due("23: DROPPED", x.event(1, 5), 3);
    }

    /** "n DAYS (0 .. 99 ..) from now, if nothing is done". */
    private static void aheadOfNow() {
        RecordClaims x = Check.with(THREE);
        x.days(5);
        x.trade(1, 0, 0, 10, 7, 1);
        x.trade(1, 0, 0, 10, 7, 9);
        x.money(0, 1, 6, 7, 104);
        x.gift(0, 11, 0, 100, 104, 104);
        x.gift(0, 11, 0, 100, 104, 105);
        x.turn(0, 1, 11, 3000, 106);
        String was = Snapshot.of(x);
        String rest = Snapshot.ofRest(x);
        long[][] want = {{0, 100, 0}, {1, 90, 7}, {2, 90, 7}, {8, 90, 7}, {9, 80, 14}, {98, 80, 14}, {99, 160, 14 + 80}};
        for (long[] each : want) {
            Check.due("24: in " + each[0], x.ahead(0, 0, (int) each[0]), each[1]);
            Check.due("25: in " + each[0], x.purseAhead(0, (int) each[0]), each[2]);
        }
        Check.due("24: not 100", x.ahead(0, 0, 100), -1);
        Check.due("25: not 100", x.purseAhead(0, 100), NO);
        Check.due("24: not -1", x.ahead(0, 0, -1), -1);
        Check.due("25: not -1", x.purseAhead(0, -1), NO);
        Check.due("nothing is done", Snapshot.of(x), was);
        Check.due("nothing is done", Snapshot.ofRest(x), rest);
        Check.due("nothing is done", x.undo(), 5);
        x.days(99);
        Check.due("24: as it came", x.has(0, 0), 160);
        Check.due("25: as it came", x.purse(0), 94);
    }

    /** "if nothing is done": what is told is what comes then, of every kind of EVENT, from each DAY. */
    private static void aheadAsItComes() {
        RecordClaims x = Check.with("holder a;holder b;holder c;paper p;paper q;paper r;has a p 100;has b p 7;has c q 30;has b r 11;");
        x.trade(1, 0, 0, 10, 50, 9);
        x.trade(0, 1, 0, 30, 5, 1);
        x.gift(0, 23, 7, 2, 4, 5);
        x.rights(0, 32, 5020, 6, 2, 4, 6);
        x.choose(1, 0, 20, 200);
        x.choose(1, 1, 3, 1);
        x.money(1, 4, 3, 3, 8);
        x.turn(2, 1, 32, 6011, 7);
        x.turn(0, 2, 23, 5010, 13);
        for (int day = 0; day < 16; day++) {
            if (day == 3) {
                x.trade(2, 0, 0, 5, 9, 1);
                x.trade(1, 2, 1, 8, 3, 1);
                x.trade(0, 1, 2, 3, 8, 9);
            }
            comes(x, day);
            x.days(1);
        }
        Check.due("one that WAITED is PAID", x.event(0, 7), 0);
        Check.due("EVENTS of every kind", x.event(4, 5), 2);
        x = Check.with(Full.book());
        for (int day = 0; day < 12; day++) {
            if (day < 5) {
                Full.tell(x, day);
            }
            comes(x, day);
            x.days(1);
        }
    }

    /** From this DAY: SHARES, MONEY, and the DAY in which each OPEN TRADE isn't OPEN any more. */
    private static void comes(RecordClaims x, int day) {
        int papers = x.look(1);
        long[] has = new long[x.look(0) * papers];
        long[] purse = new long[has.length];
        for (int n = 0; n < 16; n++) {
            if (n > 0) {
                x.days(n);
            }
            for (int i = 0; i < has.length; i++) {
                has[i] = x.has(i / papers, i % papers);
                purse[i] = x.purse(i / papers);
            }
            if (n > 0) {
                x.undo();
            }
            for (int i = 0; i < has.length; i++) {
                Check.due("24: from " + day + " in " + n, x.ahead(i / papers, i % papers, n), has[i]);
                Check.due("25: from " + day + " in " + n, x.purseAhead(i / papers, n), purse[i]);
            }
        }
        for (int t = 0; t < x.look(2); t++) {
            int waits = x.waits(t);
            long ends = 0;
            if (x.told(t, 7) == 0) {
                x.days(99);
                ends = x.told(t, 8);
                x.undo();
            }
            Check.due("26: of TRADE " + t + " from " + day, waits, ends > 0 ? ends - day : -1);
        }
    }

    /** "as far as DAY 999 at most". */
    private static void aheadAtTheEnd() {
        for (int day = 899; day <= 999; day++) {
            RecordClaims x = Check.with(THREE);
            x.gift(0, 11, 5, 998, 998, 998);
            x.money(0, 2, 999, 999, 999);
            for (int left = day; left > 0; left -= 99) {
                x.days(Math.min(left, 99));
            }
            for (int n : new int[] {0, 1, 2, 997 - day, 998 - day, 999 - day, 1000 - day, 98, 99}) {
                if (n >= 0 && n <= 99) {
                    int then = Math.min(day + n, 999);
                    Check.due("24: from " + day + " in " + n, x.ahead(0, 0, n), then >= 998 ? 200 : 100);
                    Check.due("25: from " + day + " in " + n, x.purseAhead(0, n), then >= 999 ? 400 : 0);
                }
            }
            Check.due("DAY", x.look(4), day);
        }
    }

    private static RecordClaims giftIn(int day) {
        RecordClaims x = Check.with("holder a;holder b;paper p;has a p 1;");
        x.trade(1, 0, 0, 2, 0, 1);
        x.gift(0, 91, 0, day, day, day);
        return x;
    }

    /** "In how many DAYS (1 .. 99)". */
    private static void waitsFor99() {
        // what a GIFT brings is there for the SETTLING of the DAY behind
        Check.due("26: in 2", giftIn(1).waits(0), 2);
        Check.due("26: in 98", giftIn(97).waits(0), 98);
        Check.due("26: in 99", giftIn(98).waits(0), 99);
        Check.due("26: not in 100", giftIn(99).waits(0), -1);
        RecordClaims x = giftIn(99);
        x.days(1);
        Check.due("26: in 99", x.waits(0), 99);
        x.days(98);
        Check.due("26: OPEN still", x.told(0, 7), 0);
        Check.due("26: in 1", x.waits(0), 1);
        x.days(1);
        Check.due("26: as it came", x.told(0, 8), 100);
        Check.due("26: it isn't OPEN", x.waits(0), -1);
        // a TURN in the 99th DAY, and in the 100th
        for (int day = 98; day <= 101; day++) {
            x = Check.with(THREE);
            x.trade(1, 0, 0, 101, 0, 1);
            x.trade(0, 1, 0, 8, 0, 1);
            x.turn(0, 1, 19, 0, day);
            Check.due("26: TURNED", x.waits(1), day <= 99 ? day : -1);
            Check.due("26: on the other PAPER for good", x.waits(0), day <= 98 ? day + 1 : -1);
        }
        for (int within = 1; within <= 9; within++) {
            x = Check.with(THREE);
            x.trade(1, 0, 0, 5, 0, within);
            Check.due("26: within", x.waits(0), within);
        }
    }

    /** "not by then (or by DAY 999)". */
    private static void waitsTillTheEnd() {
        for (int day = 989; day <= 999; day++) {
            RecordClaims x = Check.with(THREE);
            for (int left = day; left > 0; left -= 99) {
                x.days(Math.min(left, 99));
            }
            for (int within = 1; within <= 9; within++) {
                int t = x.trade(1, 0, 0, 1, 0, within);
                Check.due("26: in " + day + " within " + within, x.waits(t), day + within <= 999 ? within : -1);
            }
            Check.due("26: none such", x.waits(9), -2);
            Check.due("26: DAY", x.look(4), day);
        }
    }

    /** "How many SHARES more": none with as many, or more. */
    private static void wantsOneMore() {
        for (int sold = 98; sold <= 102; sold++) {
            RecordClaims x = Check.with(THREE);
            x.trade(1, 0, 0, sold - 1, 0, 9);
            Check.due("27: sold " + (sold - 1), x.wants(0, 0), Math.max(0, sold - 101));
            x.trade(2, 0, 0, 1, 0, 1);
            Check.due("27: sold " + sold, x.wants(0, 0), Math.max(0, sold - 100));
            // what would come in is none
            x.trade(0, 1, 0, 7, 0, 1);
            Check.due("27: if none came in", x.wants(0, 0), Math.max(0, sold - 100));
            x.days(1);
            Check.due("27: what came in is there", x.wants(0, 0), Math.max(0, sold - 1 - 106));
            Check.due("27: SETTLED are none", x.wants(1, 0), 0);
        }
        RecordClaims x = Check.with(THREE);
        x.trade(1, 2, 0, 1, 0, 9);
        x.trade(1, 2, 1, 31, 0, 9);
        Check.due("27: who has none", x.wants(2, 0), 1);
        Check.due("27: of each PAPER", x.wants(2, 1), 1);
        Check.due("27: who buys", x.wants(1, 0), 0);
        x.turn(1, 0, 19, 0, 1);
        x.days(1);
        Check.due("27: on the other PAPER", x.wants(2, 0), 1 + 3 - 3);
        Check.due("27: none of this one", x.wants(2, 1), 0);
        x = Check.with(THREE);
        x.trade(1, 0, 1, 8, 0, 9);
        x.turn(1, 0, 19, 0, 1);
        Check.due("27: OPEN", x.wants(0, 1), 8);
        x.days(1);
        Check.due("27: TURNED", x.wants(0, 1) + x.wants(0, 0), 0);
    }

    /** Each DAY about EX and RECORD, each within. */
    private static void carriesByDays() {
        for (int kind = 0; kind < 3; kind++) {
            for (int record = 10; record <= 13; record++) {
                RecordClaims x = Check.with(THREE);
                int e = kind == 0 ? x.money(1, 1, 10, record, 20) : kind == 1 ? x.gift(1, 11, 0, 10, record, 20)
                        : x.rights(1, 11, 0, 20, 10, record, 20);
                Check.due("the EVENT", e, 0);
                for (int day = 0; day <= 15; day++) {
                    for (int within = 1; within <= 9; within++) {
                        boolean isAhead = day < 10;
                        boolean isBy = day + within <= record;
                        boolean isToCome = day < record;
                        String run = "28: EX 10, RECORD " + record + ", in " + day + " within " + within;
                        Check.due(run, x.carries(1, within, 0), isToCome && isAhead && isBy ? 1 : 0);
                        Check.due(run, x.carries(1, within, 1), isToCome && isAhead && !isBy ? 1 : 0);
                        Check.due(run, x.carries(1, within, 2), isToCome && !isAhead && isBy ? 1 : 0);
                        Check.due("28: of another PAPER", x.carries(0, within, 0), 0);
                    }
                    x.days(1);
                }
            }
        }
    }

    /** "that are to come, no TURNS": each of the eight bits. */
    private static void carriesWhatIsToCome() {
        RecordClaims x = Check.with(THREE);
        for (int e = 0; e < 8; e++) {
            x.money(e % 2, 1, 5, 5, 5);
        }
        Check.due("28: the bits of p", x.carries(0, 1, 0), 1 + 4 + 16 + 64);
        Check.due("28: the bits of q", x.carries(1, 1, 0), 2 + 8 + 32 + 128);
        Check.due("28: CLAIMS", x.carries(1, 6, 1), 2 + 8 + 32 + 128);
        x = Check.with(THREE);
        Check.due("28: no EVENTS", x.carries(0, 1, 0), 0);
        x.turn(0, 1, 11, 0, 3);
        x.money(0, 1, 1, 4, 5);
        x.money(1, 1, 1, 4, 5);
        Check.due("28: no TURN", x.carries(0, 1, 0), 2);
        Check.due("28: no TURN", x.carries(0, 9, 1), 2);
        x.days(2);
        Check.due("28: no TURN", x.carries(0, 1, 2), 2);
        x.days(1);
        Check.due("28: DROPPED", x.carries(0, 1, 2), 0);
        Check.due("28: of the other PAPER", x.carries(1, 1, 2), 4);
        x.days(1);
        Check.due("28: WRITTEN", x.carries(1, 1, 2), 0);
        // undone, and told by fewer EVENTS then
        x = Check.with(THREE);
        x.money(0, 1, 5, 5, 5);
        x.money(0, 1, 5, 5, 5);
        x.undo();
        Check.due("28: one is undone", x.carries(0, 1, 0), 1);
    }

    private static void worst(RecordClaims x, long who, long shares) {
        Check.due("29: who", x.worst(0, 0), who);
        Check.due("29: how many", x.worst(0, 1), shares);
        Check.due("29: another what", x.worst(0, 2), -1);
        Check.due("29: another what", x.worst(0, -1), -1);
    }

    /** "of several the first"; "NONE if there are no CLAIMS". */
    private static void worstOfSeveral() {
        worst(claims(TEN), -1, -1);
        worst(claims(TEN, 0, 1, 1), 0, 1);
        worst(claims(TEN, 9, 0, 1), 9, 1);
        worst(claims(TEN, 1, 0, 5, 0, 1, 5), 0, 5);
        worst(claims(TEN, 0, 1, 5, 1, 0, 6), 1, 6);
        worst(claims(TEN, 2, 1, 5, 0, 1, 5, 1, 0, 5), 0, 5);
        worst(claims(TEN, 2, 1, 5, 0, 1, 2, 9, 1, 5, 0, 2, 2), 2, 5);
        worst(claims(TEN, 2, 1, 5, 0, 1, 2, 9, 1, 5, 0, 2, 4), 0, 6);
        worst(claims(TEN, 2, 1, 2, 9, 1, 2, 9, 3, 1, 2, 9, 1), 2, 3);
        RecordClaims x = Check.with(THREE);
        x.trade(1, 0, 0, 1, 0, 9);
        x.money(0, 1, 3, 3, 3);
        x.turn(0, 1, 11, 0, 4);
        worst(x, -1, -1);
        x.days(9);
        worst(x, 0, 1);
        Check.due("29: none of a TURN", x.worst(1, 0), -1);
        Check.due("29: no such EVENT", x.worst(2, 0), -1);
    }
}
