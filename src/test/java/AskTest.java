/** What is asked of the state: promises 22 to 29. */
public final class AskTest {
    private static final long NO = Long.MIN_VALUE;
    private static final String THREE = "holder al;holder bo;holder cy;paper p;paper q;has al p 100;has bo p 7;has cy q 30;";

    public static void main(String[] args) {
        nets();
        worths();
        whatComes();
        waits();
        wants();
        carries();
        worst();
        Check.end("AskTest");
    }

    private static void net(RecordClaims x, int i, long from, long to, long shares) {
        Check.due("net " + i + " who", x.net(0, i, 0), from);
        Check.due("net " + i + " whom", x.net(0, i, 1), to);
        Check.due("net " + i + " shares", x.net(0, i, 2), shares);
        Check.due("net " + i + " another what", x.net(0, i, 3), -1);
        Check.due("net " + i + " another what", x.net(0, i, -1), -1);
    }

    private static void nets() {
        RecordClaims x = Check.with("holder a;holder b;holder c;holder d;holder e;paper p;has a p 1;");
        x.money(0, 1, 1, 1, 2);
        Check.due("none yet", x.net(0, -1, 0), 0);
        x.trade(2, 4, 0, 50, 0, 9);
        x.trade(3, 1, 0, 30, 0, 9);
        x.trade(0, 3, 0, 25, 0, 9);
        x.trade(4, 2, 0, 8, 0, 9);
        x.trade(0, 1, 0, 40, 0, 9);
        x.days(1);
        // a 65, b -70, c 42, d 5, e -42
        Check.due("how many", x.net(0, -1, 0), 4);
        Check.due("whatever what", x.net(0, -1, 9), 4);
        net(x, 0, 1, 0, 65);
        net(x, 1, 1, 2, 5);
        net(x, 2, 4, 2, 37);
        net(x, 3, 4, 3, 5);
        net(x, 4, -1, -1, -1);
        Check.due("below", x.net(0, -2, 0), -1);
        Check.due("no such", x.net(1, -1, 0), -1);
        Check.due("no such", x.net(-1, -1, 0), -1);
        x.days(1);
        Check.due("PAID ones count", x.net(0, -1, 0), 4);
        // a TURN has none
        x = Check.with(THREE);
        x.trade(1, 0, 0, 5, 0, 9);
        x.turn(0, 1, 11, 0, 1);
        x.days(1);
        Check.due("none of a TURN", x.net(0, -1, 0), 0);
        Check.due("none of a TURN", x.net(0, 0, 0), -1);
    }

    private static void worth(RecordClaims x, int event, int p, long above, long below) {
        Check.due("worth of " + event + " at " + p, x.worth(event, p, 0), above);
        Check.due("worth of " + event + " at " + p, x.worth(event, p, 1), below);
    }

    private static void worths() {
        RecordClaims x = Check.with(THREE);
        x.gift(0, 26, 7, 6, 6, 7);
        x.rights(0, 43, 15020, 7, 6, 6, 7);
        x.money(0, 9, 6, 6, 7);
        x.turn(0, 1, 11, 0, 8);
        x.rights(0, 11, 999, 7, 6, 6, 7);
        worth(x, 0, 10, 15, 2);
        worth(x, 0, 12, 9, 1);
        worth(x, 0, 0, 0, 1);
        worth(x, 0, 99999, 299997, 4);
        worth(x, 1, 10, 90, 7);
        worth(x, 1, 1, 9, 1);
        worth(x, 1, 0, 60, 7);
        worth(x, 2, 10, 1, 1);
        worth(x, 2, 9, 0, 1);
        worth(x, 2, 0, -9, 1);
        worth(x, 3, 10, NO, NO);
        worth(x, 4, 0, 0, 1);
        worth(x, 4, 7, 7, 2);
        worth(x, 5, 7, NO, NO);
        worth(x, -1, 7, NO, NO);
        worth(x, 0, -1, NO, NO);
        worth(x, 0, 100000, NO, NO);
        Check.due("another what", x.worth(0, 10, 2), NO);
        Check.due("another what", x.worth(1, 10, -1), NO);
        Check.due("another what", x.worth(2, 10, 2), NO);
    }

    private static void whatComes() {
        RecordClaims x = Check.with(THREE);
        x.trade(1, 0, 0, 10, 50, 3);
        x.gift(0, 11, 0, 5, 6, 7);
        long[] al = {100, 100, 100, 90, 90, 90, 90, 180};
        long[] bo = {0, 0, 0, -50, -50, -50, -50, -50};
        for (int n = 0; n < 8; n++) {
            Check.due("ahead " + n, x.ahead(0, 0, n), al[n]);
            Check.due("purseAhead " + n, x.purseAhead(1, n), bo[n]);
        }
        Check.due("99", x.ahead(1, 0, 99), 34);
        Check.due("nothing is done", x.look(4), 0);
        Check.due("nothing is done", x.has(0, 0), 100);
        Check.due("n", x.ahead(0, 0, -1), -1);
        Check.due("n", x.ahead(0, 0, 100), -1);
        Check.due("holder", x.ahead(3, 0, 1), -1);
        Check.due("holder", x.ahead(-1, 0, 1), -1);
        Check.due("paper", x.ahead(0, 2, 1), -1);
        Check.due("paper", x.ahead(0, -1, 1), -1);
        Check.due("n", x.purseAhead(0, -1), NO);
        Check.due("n", x.purseAhead(0, 100), NO);
        Check.due("holder", x.purseAhead(3, 1), NO);
        Check.due("holder", x.purseAhead(-1, 1), NO);
        // as far as DAY 999
        x.gift(0, 11, 0, 999, 999, 999);
        for (int i = 0; i < 10; i++) {
            x.days(99);
        }
        x.trade(0, 1, 0, 1, 5, 9);
        Check.due("DAY 998", x.ahead(0, 0, 8), 180);
        Check.due("DAY 999", x.ahead(0, 0, 9), 362);
        Check.due("no farther", x.ahead(0, 0, 99), 362);
        Check.due("purse", x.purseAhead(0, 99), 45);
        x.days(9);
        Check.due("none left", x.ahead(0, 0, 50), 362);
        x.trade(1, 0, 0, 1, 5, 1);
        Check.due("DUE beyond", x.ahead(0, 0, 99), 362);
        Check.due("DUE beyond", x.purseAhead(0, 99), 45);
        Check.due("OPEN all the same", x.look(5), 1);
        Check.due("not beyond its DAY", x.look(6), 0);
    }

    private static void waits() {
        RecordClaims x = Check.with(THREE);
        x.trade(1, 0, 0, 10, 50, 3);
        x.trade(1, 2, 1, 32, 50, 3);
        x.trade(0, 1, 0, 17, 50, 1);
        x.trade(1, 2, 1, 1, 50, 9);
        x.turn(1, 0, 12, 0, 5);
        Check.due("DUE", x.waits(0), 3);
        Check.due("never", x.waits(1), -1);
        Check.due("behind another", x.waits(2), 3);
        Check.due("TURNED", x.waits(3), 5);
        Check.due("none such", x.waits(4), -2);
        Check.due("none such", x.waits(-1), -2);
        Check.due("nothing is done", x.look(4), 0);
        x.days(3);
        Check.due("SETTLED", x.waits(0), -1);
        Check.due("OPEN", x.waits(3), 2);
        x.days(2);
        Check.due("TURNED", x.told(3, 7), 2);
        Check.due("TURNED", x.waits(3), -1);
        // 99 DAYS, not 100; by DAY 999
        x = Check.with("holder a;holder b;paper p;has a p 1;");
        x.trade(1, 0, 0, 2, 0, 1);
        x.gift(0, 91, 0, 100, 100, 100);
        Check.due("100", x.waits(0), -1);
        x.days(1);
        // the GIFT comes behind SETTLING, so that it is one DAY more
        Check.due("100", x.waits(0), -1);
        x.days(1);
        Check.due("99", x.waits(0), 99);
        for (int i = 0; i < 10; i++) {
            x.days(99);
        }
        x.trade(0, 1, 0, 1, 0, 7);
        x.trade(0, 1, 0, 1, 0, 8);
        Check.due("in DAY 999", x.waits(1), 7);
        Check.due("beyond DAY 999", x.waits(2), -1);
    }

    private static void wants() {
        RecordClaims x = Check.with(THREE);
        Check.due("none sold", x.wants(0, 0), 0);
        x.trade(1, 0, 0, 60, 50, 1);
        x.trade(2, 0, 0, 40, 50, 9);
        Check.due("as many", x.wants(0, 0), 0);
        x.trade(2, 0, 0, 41, 50, 2);
        x.trade(1, 0, 1, 5, 50, 2);
        x.trade(0, 1, 0, 5, 50, 2);
        Check.due("more", x.wants(0, 0), 41);
        Check.due("other paper", x.wants(0, 1), 5);
        Check.due("less", x.wants(1, 0), 0);
        x.days(1);
        Check.due("SETTLED are none", x.wants(0, 0), 41);
        Check.due("none such", x.wants(3, 0), -1);
        Check.due("none such", x.wants(-1, 0), -1);
        Check.due("none such", x.wants(0, 2), -1);
        Check.due("none such", x.wants(0, -1), -1);
    }

    private static void carries() {
        RecordClaims x = Check.with(THREE);
        x.money(0, 1, 3, 5, 6);
        x.money(1, 1, 3, 5, 6);
        x.gift(0, 11, 0, 1, 2, 9);
        x.turn(0, 1, 11, 0, 9);
        x.rights(0, 11, 0, 7, 2, 7, 9);
        int[][] want = {
            // DAY 0: within 1 .. 9
            {21, 21, 17, 17, 17, 16, 16, 0, 0}, {0, 0, 4, 4, 4, 5, 5, 21, 21}, {0, 0, 0, 0, 0, 0, 0, 0, 0},
            // DAY 1: event 2 is not ahead of EX
            {17, 17, 17, 17, 16, 16, 0, 0, 0}, {0, 0, 0, 0, 1, 1, 17, 17, 17}, {4, 0, 0, 0, 0, 0, 0, 0, 0},
            // DAY 2: event 2 is WRITTEN, event 4 is not ahead of EX
            {1, 1, 1, 0, 0, 0, 0, 0, 0}, {0, 0, 0, 1, 1, 1, 1, 1, 1}, {16, 16, 16, 16, 16, 0, 0, 0, 0}};
        for (int day = 0; day < 3; day++) {
            for (int what = 0; what < 3; what++) {
                for (int within = 1; within <= 9; within++) {
                    Check.due("carries in " + day + " within " + within + " what " + what, x.carries(0, within, what),
                            want[day * 3 + what][within - 1]);
                }
            }
            x.days(1);
        }
        Check.due("other paper", x.carries(1, 2, 2), 2);
        Check.due("within", x.carries(0, 0, 0), -1);
        Check.due("within", x.carries(0, 10, 0), -1);
        Check.due("what", x.carries(0, 1, 3), -1);
        Check.due("what", x.carries(0, 1, -1), -1);
        Check.due("paper", x.carries(2, 1, 0), -1);
        Check.due("paper", x.carries(-1, 1, 0), -1);
        // DROPPED ones are not to come
        x = Check.with(THREE);
        x.turn(0, 1, 11, 0, 1);
        x.money(0, 1, 5, 5, 5);
        x.days(1);
        Check.due("DROPPED", x.carries(0, 1, 0), 0);
    }

    private static void worst() {
        RecordClaims x = Check.with("holder a;holder b;holder c;paper p;has a p 1;");
        x.money(0, 1, 1, 1, 2);
        Check.due("none yet", x.worst(0, 0), -1);
        Check.due("none yet", x.worst(0, 1), -1);
        x.trade(0, 2, 0, 20, 0, 9);
        x.trade(2, 1, 0, 30, 0, 9);
        x.trade(1, 2, 0, 10, 0, 9);
        x.trade(1, 0, 0, 29, 0, 9);
        x.days(1);
        // from b 30, from c 30, from a 29
        Check.due("the first", x.worst(0, 0), 1);
        Check.due("how many", x.worst(0, 1), 30);
        Check.due("another what", x.worst(0, 2), -1);
        Check.due("another what", x.worst(0, -1), -1);
        Check.due("no such", x.worst(1, 0), -1);
        Check.due("no such", x.worst(-1, 0), -1);
    }
}
