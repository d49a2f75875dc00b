/** All that there can be: ten HOLDERS, five PAPERS, sixty TRADES, eight EVENTS, each another than its neighbours. */
final class Full {
    static final String NAMES = "holder a;holder b;holder c;holder d;holder e;holder f;holder g;holder h;holder i;holder j;"
            + "paper p;paper q;paper r;paper s;paper t;";
    private static final int EVENTS_IN_ALL = 8;
    private static final int TRADES_IN_ALL = 60;

    private Full() {
    }

    /** Each HOLDER has some SHARES of each PAPER. */
    static String book() {
        StringBuilder text = new StringBuilder(NAMES);
        for (int i = 0; i < 50; i++) {
            text.append("has ").append((char) ('a' + i / 5)).append(' ').append((char) ('p' + i % 5)).append(' ').append(i + 3).append(';');
        }
        return text.toString();
    }

    /** What is told in this DAY (0 .. 4). */
    static void tell(RecordClaims x, int day) {
        if (day == 0) {
            tellEvents(x);
        }
        for (int t = day * 12; t < day * 12 + 12; t++) {
            int buyer = (t * 7 + t / 10) % 10;
            int seller = (buyer + 1 + t % 9) % 10;
            Check.due("a TRADE", x.trade(buyer, seller, (t + t / 5) % 5, 1 + t % 13 * (t % 4), 10 * t, 1 + (t * 5 + day) % 9), t);
        }
        for (int h = 0; h < 10; h++) {
            Check.yes("a choice", x.choose(1, h, h + day, 20 - h));
            Check.yes("a choice", x.choose(6, h, 3 * h, 50 - day));
        }
        Check.due("TRADES", x.look(2), Math.min(TRADES_IN_ALL, day * 12 + 12));
    }

    private static void tellEvents(RecordClaims x) {
        x.gift(0, 23, 7, 2, 6, 7);
        x.rights(1, 32, 5020, 8, 3, 6, 9);
        x.money(2, 4, 2, 5, 8);
        x.gift(3, 19, 999, 2, 4, 4);
        x.turn(4, 3, 32, 6011, 6);
        x.gift(0, 91, 3, 3, 7, 8);
        x.rights(3, 95, 3001, 8, 1, 8, 9);
        x.turn(2, 1, 13, 7013, 10);
        Check.due("EVENTS", x.look(3), EVENTS_IN_ALL);
    }
}
