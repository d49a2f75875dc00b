/** Long runs of made-up calls: what the class answers, and what the model does. */
public final class ModelTest {
    private static long seed;
    private static RecordClaims x;
    private static Model m;
    private static String run;
    private static int tally[] = new int[40];

    private static final int[] ODD = {-1, -2, 0, 1, 2, 3, 7, 9, 10, 11, 59, 60, 99, 100, 999, 1000, 100000, 100001, 99999999,
        100000000, 999999999, 1000000000, Integer.MAX_VALUE, Integer.MIN_VALUE, Integer.MIN_VALUE + 1};
    private static final String[] NAMES = {"a", "b", "cd", "e", "ffffff", "gold", "ha", "ijk", "days", "abcdefg", "p", "q",
        "turn", "zz", "has", "m", "n", "o"};

    public static void main(String[] args) {
        for (int i = 1; i <= 1500; i++) {
            seed = i * 7919L;
            run = "run " + i;
            x = new RecordClaims();
            m = new Model();
            oneRun();
            if (Check.isWrong()) {
                break;
            }
        }
        for (int i = 1; i <= 150 && !Check.isWrong(); i++) {
            seed = i * 104729L;
            run = "wide run " + i;
            x = new RecordClaims();
            m = new Model();
            wideRun();
        }
        // what is to be compared must have come about, too
        String[] met = {"trades settled", "trades turned", "claims", "claims that waited", "claims paid later", "rights taken",
            "rights wanting", "events dropped", "texts with a fault", "texts without", "undone", "sixty trades", "eight events"};
        for (int i = 0; i < met.length; i++) {
            Check.yes("runs met " + met[i] + " (" + tally[i] + ")", tally[i] > 50);
        }
        Check.end("ModelTest");
    }

    /** A made-up number from 0 to below n: always the same ones. */
    private static int any(int n) {
        seed = seed * 6364136223846793005L + 1442695040888963407L;
        return (int) ((seed >>> 33) % n);
    }

    private static int pick(int n, int oddOneIn) {
        return any(oddOneIn) == 0 ? ODD[any(ODD.length)] : any(n);
    }

    private static int day() {
        return m.look(4);
    }

    private static void due(String call, long got, long want) {
        Check.due(run + ": " + call, got, want);
    }

    private static void oneRun() {
        text(aBook(2 + any(4), 2 + any(2)), true);
        int calls = 40 + any(120);
        int events = 0;
        for (int i = any(8) == 0 ? 10 : 0; i > 0; i--) {
            due("days(99)", x.days(99), m.deed("days", 99));
        }
        for (int i = 0; i < calls && !Check.isWrong(); i++) {
            int kind = any(40);
            if (kind < 12) {
                aTrade();
            } else if (kind < 17 && events < 12) {
                anEvent();
                events++;
            } else if (kind < 21) {
                aChoice();
            } else if (kind < 29) {
                int n = any(20) == 0 ? pick(120, 2) : 1 + any(3);
                due("days(" + n + ")", x.days(n), m.deed("days", n));
            } else if (kind < 31) {
                int kept = m.undo();
                due("undo()", x.undo(), kept);
                tally[10] += kept >= 0 ? 1 : 0;
            } else if (kind < 34) {
                text(someDeeds(), false);
            } else if (kind == 34 && any(8) == 0) {
                text(aBook(any(12), any(7)), true);
            } else if (kind == 35) {
                aName();
            } else {
                questions(10);
            }
        }
        questions(60);
        everything();
    }

    /** All that there can be: ten HOLDERS, five PAPERS, up to sixty TRADES and eight EVENTS, TURNS from any PAPER into any. */
    private static void wideRun() {
        put(wideBook());
        due("book", x.book(), m.book());
        int late = any(3) == 0 ? 985 + any(8) : any(40);
        for (int n = late; n > 0; n -= 99) {
            due("days", x.days(Math.min(n, 99)), m.deed("days", Math.min(n, 99)));
        }
        for (int i = 0; i < 8; i++) {
            wideEvent(late);
        }
        for (int round = 0; round < 9 && !Check.isWrong(); round++) {
            for (int i = 0; i < 8; i++) {
                int[] v = {any(10), any(10), any(5), 1 + any(any(4) == 0 ? 400 : 60), any(3000), 1 + any(any(2) == 0 ? 3 : 9)};
                due("trade", x.trade(v[0], v[1], v[2], v[3], v[4], v[5]), m.deed("trade", v));
            }
            for (int i = 0; i < 12; i++) {
                int[] v = {any(8), any(10), any(80), any(80)};
                due("choose", x.choose(v[0], v[1], v[2], v[3]) ? 0 : -1, m.deed("choose", v));
            }
            wideQuestions();
            int n = 1 + any(3);
            due("days", x.days(n), m.deed("days", n));
            everything();
        }
        tally[11] += m.look(2) == 60 ? 1 : 0;
        tally[12] += m.look(3) == 8 ? 1 : 0;
        for (int i = any(9); i > 0; i--) {
            int kept = m.undo();
            due("undo", x.undo(), kept);
        }
        everything();
    }

    /** Short NAMES, so that fifty has-LINES fit THE TAPE. */
    private static String wideBook() {
        StringBuilder text = new StringBuilder();
        for (char c = 'a'; c < 'k'; c++) {
            text.append("holder ").append(c).append(';');
        }
        for (char c = 'p'; c < 'u'; c++) {
            text.append("paper ").append(c).append(';');
        }
        for (int i = 0; i < 36; i++) {
            text.append("has ").append((char) ('a' + any(10))).append(' ').append((char) ('p' + any(5))).append(' ')
                    .append(any(999)).append(';');
        }
        return text.toString();
    }

    private static void wideEvent(int today) {
        int p = any(5);
        int a = 1 + any(any(2) == 0 ? 2 : 9);
        int b = 1 + any(9);
        int price = any(1000);
        int cash = any(1000);
        int ex = Math.min(999, today + 1 + any(8));
        int record = Math.min(999, ex + any(6));
        int pay = Math.min(999, record + any(6));
        int until = record + any(pay - record + 1);
        switch (any(5)) {
            case 0:
                due("money", x.money(p, price, ex, record, pay), m.deed("money", p, price, ex, record, pay));
                break;
            case 1:
                due("gift", x.gift(p, 10 * a + b, cash, ex, record, pay), m.deed("gift", p, a, b, cash, ex, record, pay));
                break;
            case 2:
            case 3:
                due("rights", x.rights(p, 10 * a + b, 1000 * price + cash, until, ex, record, pay),
                        m.deed("rights", p, a, b, price, cash, until, ex, record, pay));
                break;
            default:
                int into = any(5);
                due("turn", x.turn(p, into, 10 * a + b, 1000 * price + cash, record),
                        m.deed("turn", p, into, a, b, price, cash, record));
        }
    }

    private static void wideQuestions() {
        for (int p = 0; p < 5; p++) {
            int within = 1 + any(9);
            for (int what = 0; what < 3; what++) {
                due("carries", x.carries(p, within, what), m.carries(p, within, what));
            }
        }
        for (int i = 0; i < 4; i++) {
            int h = any(10);
            int p = any(5);
            int t = any(60);
            int far = any(any(3) == 0 ? 100 : 12);
            due("ahead", x.ahead(h, p, far), m.ahead(h, p, far));
            due("purseAhead", x.purseAhead(h, far), m.purseAhead(h, far));
            due("waits", x.waits(t), m.waits(t));
        }
    }

    private static void aTrade() {
        int n = 10;
        int h = Math.max(1, m.look(0));
        int p = Math.max(1, m.look(1));
        int[] v = {pick(h, 30), pick(h, 30), any(3) == 0 ? pick(p, 30) : 0, any(n) == 0 ? pick(100001, 3) : 1 + any(60),
            pick(500, 30), any(15) == 0 ? pick(12, 3) : 1 + any(5)};
        due("trade", x.trade(v[0], v[1], v[2], v[3], v[4], v[5]), m.deed("trade", v));
    }

    private static int digit() {
        return any(25) == 0 ? 0 : 1 + any(any(2) == 0 ? 3 : 9);
    }

    private static int price() {
        return any(25) == 0 ? ODD[any(14)] & 1023 : any(any(2) == 0 ? 10 : 1000);
    }

    private static void anEvent() {
        int p = any(3) == 0 ? pick(Math.max(1, m.look(1)), 20) : 0;
        int ex = day() + 1 + any(6) - any(30) / 29;
        int record = ex + any(5) - any(30) / 29;
        int pay = record + any(5) - any(30) / 29;
        int until = record + any(pay - record + 1 > 0 ? pay - record + 1 : 1) + any(20) / 19;
        int a = digit();
        int b = digit();
        int price = Math.min(price(), 999);
        int cash = Math.min(price(), 999);
        switch (any(5)) {
            case 0:
                due("money", x.money(p, price, ex, record, pay), m.deed("money", p, price, ex, record, pay));
                break;
            case 1:
            case 2:
                due("gift", x.gift(p, 10 * a + b, cash, ex, record, pay), m.deed("gift", p, a, b, cash, ex, record, pay));
                break;
            case 3:
                due("rights", x.rights(p, 10 * a + b, 1000 * price + cash, until, ex, record, pay),
                        m.deed("rights", p, a, b, price, cash, until, ex, record, pay));
                break;
            default:
                int into = any(3) == 0 ? pick(2, 20) : 1;
                due("turn", x.turn(p, into, 10 * a + b, 1000 * price + cash, record),
                        m.deed("turn", p, into, a, b, price, cash, record));
        }
    }

    private static void aChoice() {
        int[] v = {pick(Math.max(1, m.look(3)), 20), pick(Math.max(1, m.look(0)), 20), pick(any(2) == 0 ? 50 : 1000, 20),
            pick(any(2) == 0 ? 50 : 1000, 20)};
        due("choose", x.choose(v[0], v[1], v[2], v[3]) ? 0 : -1, m.deed("choose", v));
    }

    // ---- texts

    private static void put(String text) {
        int had = m.look(9);
        for (int i = 0; i < text.length(); i += 20) {
            int[] n = new int[5];
            for (int k = 0; k < 20; k++) {
                n[k / 4] = n[k / 4] << 8 | (i + k < text.length() ? text.charAt(i + k) : any(256));
            }
            due("feed", x.feed(n[0], n[1], n[2], n[3], n[4]), m.feed(n[0], n[1], n[2], n[3], n[4]));
        }
        int n = had + text.length();
        due("end", x.end(n) ? 1 : 0, m.end(n) ? 1 : 0);
        due("tape", x.look(9), m.look(9));
    }

    private static void text(String whole, boolean isBook) {
        String text = any(2) == 0 ? whole : spoilt(whole);
        put(text);
        int answer = isBook ? m.book() : m.deeds();
        due((isBook ? "book " : "deeds ") + text, isBook ? x.book() : x.deeds(), answer);
        for (int what = -1; what <= 2; what++) {
            due("fault of " + text, x.fault(what), m.fault(what));
        }
        tally[answer == -1 ? 8 : 9]++;
        everything();
        if (answer == -1 && isBook && m.look(0) == 0) {
            text("holder a;holder b;holder cd;paper p;paper q;has a p 50;has b p 20;has cd q 9;", true);
        }
    }

    private static String spoilt(String whole) {
        StringBuilder text = new StringBuilder(whole);
        for (int i = any(3); i >= 0 && text.length() > 0; i--) {
            int at = any(text.length());
            String signs = " \n;0123456789abcdehilnopqrtuwxyz.A\t\0\377";
            char c = signs.charAt(any(signs.length()));
            switch (any(4)) {
                case 0:
                    text.setCharAt(at, c);
                    break;
                case 1:
                    text.deleteCharAt(at);
                    break;
                case 2:
                    text.insert(at, c);
                    break;
                default:
                    text.setLength(at);
            }
        }
        return text.substring(0, Math.min(text.length(), 680));
    }

    private static String blank() {
        return any(8) == 0 ? " \n" : " ";
    }

    private static String name(boolean isHolder) {
        return any(30) == 0 ? NAMES[any(NAMES.length)] : isHolder ? NAMES[any(3)] : any(3) == 0 ? "q" : "p";
    }

    private static String aBook(int holders, int papers) {
        StringBuilder text = new StringBuilder();
        String[] h = {"a", "b", "cd", "e", "ffffff", "gold", "ha", "ijk", "r", "s", "t", "u"};
        String[] p = {"p", "q", "zz", "m", "n", "o", "v"};
        for (int i = 0; i < holders; i++) {
            text.append("holder").append(blank()).append(h[i]).append(";");
        }
        for (int i = 0; i < papers; i++) {
            text.append(blank()).append("paper ").append(p[i]).append(";");
        }
        for (int i = any(8); i > 0; i--) {
            text.append("has ").append(name(true)).append(" ").append(name(false)).append(blank())
                    .append(any(10) == 0 ? 99990 + any(20) : any(300)).append(blank()).append(";");
        }
        return text.toString();
    }

    private static String someDeeds() {
        StringBuilder text = new StringBuilder();
        for (int i = any(6); i > 0; i--) {
            int ex = day() + 1 + any(6);
            int record = ex + any(3);
            int pay = record + any(4);
            String when = " ex " + ex + blank() + "record " + record + " pay" + blank() + pay + ";";
            String ratio = blank() + digit() + " for" + blank() + digit();
            switch (any(9)) {
                case 0:
                    text.append("money ").append(name(false)).append(blank()).append(price()).append(when);
                    break;
                case 1:
                    text.append("gift ").append(name(false)).append(ratio).append(" cash ").append(price()).append(when);
                    break;
                case 2:
                    text.append("rights ").append(name(false)).append(ratio).append(" at ").append(price()).append(" worth ")
                            .append(price()).append(" until ").append(record + any(3)).append(when);
                    break;
                case 3:
                    text.append("turn ").append(name(false)).append(" into ").append(any(4) == 0 ? "p" : "q").append(ratio)
                            .append(" plus ").append(price()).append(" cash ").append(price()).append(" record ").append(record)
                            .append(";");
                    break;
                case 4:
                    text.append("choose ").append(any(5)).append(" ").append(name(true)).append(" ").append(any(40)).append(" ")
                            .append(any(60)).append(";");
                    break;
                case 5:
                    text.append("days ").append(any(4)).append(";");
                    break;
                default:
                    text.append("trade ").append(name(true)).append(" ").append(name(true)).append(" ").append(name(false))
                            .append(" ").append(any(60)).append(" ").append(any(900));
                    if (any(2) == 0) {
                        text.append(" within ").append(any(10));
                    }
                    text.append(blank()).append(";");
            }
        }
        return text.toString();
    }

    private static void aName() {
        String text = blank() + NAMES[any(NAMES.length)] + blank();
        put(any(3) == 0 ? spoilt(text) : text);
        int what = pick(2, 10);
        int answer = m.named(what);
        due("named " + text, x.named(what), answer);
    }

    // ---- questions

    private static void questions(int n) {
        for (int i = 0; i < n; i++) {
            int e = pick(8, 12);
            int h = pick(4, 12);
            int p = pick(3, 12);
            int t = pick(60, 12);
            int what = pick(9, 12);
            int far = pick(100, 12);
            int k = pick(6, 4);
            due("has", x.has(h, p), m.has(h, p));
            due("purse", x.purse(h), m.purse(h));
            due("told", x.told(t, what), m.told(t, what));
            due("event", x.event(e, what), m.event(e, what));
            due("written", x.written(e, h, what), m.written(e, h, what));
            due("claim", x.claim(e, k, what), m.claim(e, k, what));
            due("issued", x.issued(e, what % 3), m.issued(e, what % 3));
            due("net", x.net(e, k, what % 4), m.net(e, k, what % 4));
            due("worth", x.worth(e, far * 1000, what % 3), m.worth(e, far * 1000, what % 3));
            due("wants", x.wants(h, p), m.wants(h, p));
            due("carries", x.carries(p, k, what % 4), m.carries(p, k, what % 4));
            due("worst", x.worst(e, what % 3), m.worst(e, what % 3));
            due("show", x.show(h), m.show(h));
            due("out", x.out(far), m.out(far));
            due("look", x.look(what), m.look(what));
            if (any(10) == 0) {
                due("ahead", x.ahead(h, p, far), m.ahead(h, p, far));
                due("purseAhead", x.purseAhead(h, far), m.purseAhead(h, far));
                due("waits", x.waits(t), m.waits(t));
            }
        }
    }

    private static void everything() {
        for (int what = 0; what < 10; what++) {
            due("look " + what, x.look(what), m.look(what));
        }
        for (int h = 0; h < 11; h++) {
            for (int p = 0; p < 6; p++) {
                due("has", x.has(h, p), m.has(h, p));
                due("wants", x.wants(h, p), m.wants(h, p));
            }
            due("purse", x.purse(h), m.purse(h));
            due("show", x.show(h), m.show(h));
            for (int i = 0; i < m.show(h); i++) {
                due("out", x.out(i), m.out(i));
            }
        }
        for (int t = 0; t <= m.look(2); t++) {
            for (int what = 0; what < 10; what++) {
                due("told", x.told(t, what), m.told(t, what));
            }
            tally[0] += m.told(t, 7) == 1 ? 1 : 0;
            tally[1] += m.told(t, 7) == 2 ? 1 : 0;
        }
        for (int e = 0; e <= m.look(3); e++) {
            everythingOf(e);
        }
    }

    private static void everythingOf(int e) {
        for (int what = 0; what < 9; what++) {
            due("event", x.event(e, what), m.event(e, what));
        }
        for (int h = 0; h < 11; h++) {
            for (int what = 0; what < 8; what++) {
                due("written " + e + " " + h + " " + what, x.written(e, h, what), m.written(e, h, what));
            }
            tally[5] += m.written(e, h, 4) > 0 ? 1 : 0;
            tally[6] += m.event(e, 0) == 2 && m.event(e, 5) == 2 && m.written(e, h, 6) < 0
                    && m.written(e, h, 6) != Long.MIN_VALUE ? 1 : 0;
        }
        boolean waited = false;
        for (int i = 0; i <= m.event(e, 6); i++) {
            for (int what = 0; what < 8; what++) {
                due("claim", x.claim(e, i, what), m.claim(e, i, what));
                due("net", x.net(e, i, what), m.net(e, i, what));
            }
            tally[2] += m.claim(e, i, 4) >= 0 ? 1 : 0;
            tally[3] += m.claim(e, i, 4) == 2 ? 1 : 0;
            waited |= m.claim(e, i, 4) == 2;
            tally[4] += waited && m.claim(e, i, 4) == 1 ? 1 : 0;
        }
        tally[7] += m.event(e, 5) == 3 ? 1 : 0;
        for (int what = -1; what < 3; what++) {
            due("issued", x.issued(e, what), m.issued(e, what));
            due("net", x.net(e, -1, what), m.net(e, -1, what));
            due("worst", x.worst(e, what), m.worst(e, what));
            due("worth", x.worth(e, 720, what), m.worth(e, 720, what));
        }
    }
}
