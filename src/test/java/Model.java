import java.math.BigInteger;
import java.util.ArrayList;
import java.util.Arrays;
import java.util.List;
import java.util.Map;
import java.util.TreeMap;

/**
 * The document once more, told in another way: it keeps a list of what was done
 * and does all of it anew for each question. Slow, and meant to be plain.
 */
final class Model {
    private static final List<String> KEYWORDS = Arrays.asList(("holder paper has trade within money gift rights turn into "
            + "for at worth until plus cash ex record pay choose days").split(" "));
    private static final Map<String, String> FORMS = new TreeMap<>();

    static {
        FORMS.put("trade", "H H P N N");
        FORMS.put("money", "P N ex N record N pay N");
        FORMS.put("gift", "P N for N cash N ex N record N pay N");
        FORMS.put("rights", "P N for N at N worth N until N ex N record N pay N");
        FORMS.put("turn", "P into P N for N plus N cash N record N");
        FORMS.put("choose", "N H N N");
        FORMS.put("days", "N");
    }

    private StringBuilder tape = new StringBuilder();
    private List<String> holders = new ArrayList<>();
    private List<String> papers = new ArrayList<>();
    private long[][] start = new long[10][5];
    private List<List<Object[]>> done = new ArrayList<>();
    private int kept = 0;
    private int faultKind = 0;
    private int faultAt = -1;
    private String shown = "";
    private World cached = null;

    // ---- texts

    private static final class Fault extends RuntimeException {
        final int kind;
        final int at;

        Fault(int kind, int at) {
            this.kind = kind;
            this.at = at;
        }
    }

    private static final class Token {
        final String text;
        final int at;

        Token(String text, int at) {
            this.text = text;
            this.at = at;
        }

        boolean isName() {
            return text.matches("[a-z]{1,6}") && !KEYWORDS.contains(text);
        }
    }

    private List<Token> tokens() {
        List<Token> all = new ArrayList<>();
        int i = 0;
        while (i < tape.length()) {
            char c = tape.charAt(i);
            int j = i + 1;
            String same = c >= 'a' && c <= 'z' ? "[a-z]" : c >= '0' && c <= '9' ? "[0-9]" : "";
            while (j < tape.length() && tape.substring(j, j + 1).matches(same)) {
                j++;
            }
            if (c != ' ' && c != '\n') {
                all.add(new Token(tape.substring(i, j), i));
            }
            i = j;
        }
        all.add(new Token("", tape.length()));
        return all;
    }

    private static int number(Token t, int most) {
        if (!t.text.matches("[0-9]{1,9}")) {
            throw new Fault(1, t.at);
        }
        int n = Integer.parseInt(t.text);
        if (n > most) {
            throw new Fault(3, t.at);
        }
        return n;
    }

    private static int name(Token t, List<String> names) {
        if (!t.isName()) {
            throw new Fault(1, t.at);
        }
        if (!names.contains(t.text)) {
            throw new Fault(2, t.at);
        }
        return names.indexOf(t.text);
    }

    private static void word(Token t, String text) {
        if (!t.text.equals(text)) {
            throw new Fault(1, t.at);
        }
    }

    int feed(int a, int b, int c, int d, int e) {
        if (tape.length() + 20 > 700) {
            return -1;
        }
        for (int n : new int[] {a, b, c, d, e}) {
            for (byte x : BigInteger.valueOf(n & 0xffffffffL | 1L << 40).toByteArray()) {
                tape.append((char) (x & 255));
            }
            tape.delete(tape.length() - 6, tape.length() - 4);
        }
        return tape.length();
    }

    boolean end(int n) {
        if (n < 0 || n > tape.length()) {
            return false;
        }
        tape.setLength(n);
        return true;
    }

    int book() {
        List<String> h = new ArrayList<>();
        List<String> p = new ArrayList<>();
        long[][] s = new long[10][5];
        int lines = 0;
        try {
            List<Token> all = tokens();
            int i = 0;
            while (i < all.size() - 1) {
                Token t = all.get(i++);
                if (t.text.equals("holder") || t.text.equals("paper")) {
                    List<String> to = t.text.equals("holder") ? h : p;
                    if (to.size() == (to == h ? 10 : 5)) {
                        throw new Fault(4, t.at);
                    }
                    Token n = all.get(i++);
                    if (!n.isName()) {
                        throw new Fault(1, n.at);
                    }
                    if (h.contains(n.text) || p.contains(n.text)) {
                        throw new Fault(2, n.at);
                    }
                    to.add(n.text);
                } else {
                    word(t, "has");
                    int a = name(all.get(i++), h);
                    int b = name(all.get(i++), p);
                    s[a][b] = number(all.get(i++), 100000);
                }
                word(all.get(i++), ";");
                lines++;
            }
        } catch (Fault f) {
            return fail(f);
        }
        faultKind = 0;
        faultAt = -1;
        tape.setLength(0);
        holders = h;
        papers = p;
        start = s;
        done = new ArrayList<>();
        kept = 0;
        cached = null;
        return lines;
    }

    private int fail(Fault f) {
        faultKind = f.kind;
        faultAt = f.at;
        tape.setLength(0);
        return -1;
    }

    int deeds() {
        List<Object[]> read = new ArrayList<>();
        try {
            List<Token> all = tokens();
            int i = 0;
            while (i < all.size() - 1) {
                Token t = all.get(i++);
                if (!FORMS.containsKey(t.text)) {
                    throw new Fault(1, t.at);
                }
                List<Integer> values = new ArrayList<>();
                for (String part : FORMS.get(t.text).split(" ")) {
                    Token n = all.get(i++);
                    switch (part) {
                        case "H":
                            values.add(name(n, holders));
                            break;
                        case "P":
                            values.add(name(n, papers));
                            break;
                        case "N":
                            values.add(number(n, 999999999));
                            break;
                        default:
                            word(n, part);
                    }
                }
                if (t.text.equals("trade")) {
                    boolean isTold = all.get(i).text.equals("within");
                    values.add(isTold ? number(all.get(i + 1), 999999999) : 2);
                    i += isTold ? 2 : 0;
                }
                word(all.get(i++), ";");
                read.add(new Object[] {t.text, values.stream().mapToInt(v -> v).toArray()});
            }
        } catch (Fault f) {
            return fail(f);
        }
        faultKind = 0;
        faultAt = -1;
        tape.setLength(0);
        List<Object[]> step = new ArrayList<>();
        World w = anew();
        for (Object[] deed : read) {
            if (w.does((String) deed[0], (int[]) deed[1]) == -1) {
                break;
            }
            step.add(deed);
        }
        if (!step.isEmpty()) {
            keep(step);
        }
        return step.size();
    }

    int fault(int what) {
        return what == 0 ? faultKind : what == 1 ? faultAt : -1;
    }

    // ---- deeds

    private void keep(List<Object[]> step) {
        done.add(step);
        kept = Math.min(6, kept + 1);
        cached = null;
    }

    private World anew() {
        World w = new World(holders.size(), papers.size(), start);
        for (List<Object[]> step : done) {
            for (Object[] deed : step) {
                w.does((String) deed[0], (int[]) deed[1]);
            }
        }
        return w;
    }

    private World world() {
        if (cached == null) {
            cached = anew();
        }
        return cached;
    }

    int deed(String kind, int... values) {
        int answer = anew().does(kind, values);
        if (answer != -1) {
            List<Object[]> step = new ArrayList<>();
            step.add(new Object[] {kind, values});
            keep(step);
        }
        return answer;
    }

    int undo() {
        if (kept == 0) {
            return -1;
        }
        done.remove(done.size() - 1);
        cached = null;
        return --kept;
    }

    // ---- questions

    long has(int h, int p) {
        World w = world();
        return w.isHolder(h) && w.isPaper(p) ? w.has[h][p].longValueExact() : -1;
    }

    long purse(int h) {
        return world().isHolder(h) ? world().purse[h].longValueExact() : Long.MIN_VALUE;
    }

    long told(int t, int what) {
        World w = world();
        if (t < 0 || t >= w.trades.size() || what < 0 || what > 8) {
            return Long.MIN_VALUE;
        }
        Trade x = w.trades.get(t);
        return new long[] {x.buyer, x.seller, x.paper, x.shares.longValueExact(), x.amount.longValueExact(), x.told, x.due,
            x.state, x.ended}[what];
    }

    int event(int e, int what) {
        World w = world();
        if (!w.isEvent(e) || what < 0 || what > 7) {
            return -1;
        }
        Event x = w.events.get(e);
        int waiting = (int) x.claims.stream().filter(c -> c.state == 2).count();
        return new int[] {Arrays.asList("money", "gift", "rights", "turn").indexOf(x.kind), x.paper, x.ex, x.record, x.pay,
            x.state, x.claims.size(), waiting}[what];
    }

    long written(int e, int h, int what) {
        World w = world();
        if (!w.isEvent(e) || !w.isHolder(h) || what < 0 || what > 6) {
            return Long.MIN_VALUE;
        }
        Event x = w.events.get(e);
        BigInteger owed = x.written[h];
        for (Claim c : x.claims) {
            owed = c.to == h ? owed.add(c.shares) : c.from == h ? owed.subtract(c.shares) : owed;
        }
        return new BigInteger[] {x.written[h], owed, World.big(x.take[h]), World.big(x.sell[h]), x.taken[h], x.sold[h],
            x.lapsed[h]}[what].longValueExact();
    }

    long claim(int e, int i, int what) {
        World w = world();
        if (!w.isEvent(e) || i < 0 || i >= w.events.get(e).claims.size() || what < 0 || what > 6) {
            return -1;
        }
        Event x = w.events.get(e);
        Claim c = x.claims.get(i);
        return new long[] {c.from, c.to, c.shares.longValueExact(), c.trade, c.state, x.whole(c.shares).longValueExact(),
            x.kind.equals("rights") ? 0 : x.each(c.shares).add(x.part(c.shares)).longValueExact()}[what];
    }

    long issued(int e, int what) {
        World w = world();
        if (!w.isEvent(e) || what < 0 || what > 1) {
            return Long.MIN_VALUE;
        }
        return (what == 0 ? w.events.get(e).cameShares : w.events.get(e).cameMoney).longValueExact();
    }

    long net(int e, int i, int what) {
        World w = world();
        if (!w.isEvent(e)) {
            return -1;
        }
        long[] sum = new long[10];
        for (Claim c : w.events.get(e).claims) {
            sum[c.to] += c.shares.longValueExact();
            sum[c.from] -= c.shares.longValueExact();
        }
        List<long[]> payments = new ArrayList<>();
        while (Arrays.stream(sum).anyMatch(s -> s > 0)) {
            int from = 0;
            int to = 0;
            while (sum[from] >= 0) {
                from++;
            }
            while (sum[to] <= 0) {
                to++;
            }
            long n = Math.min(-sum[from], sum[to]);
            sum[from] += n;
            sum[to] -= n;
            payments.add(new long[] {from, to, n});
        }
        if (i == -1) {
            return payments.size();
        }
        return i < 0 || i >= payments.size() || what < 0 || what > 2 ? -1 : payments.get(i)[what];
    }

    long worth(int e, int p, int what) {
        World w = world();
        if (!w.isEvent(e) || p < 0 || p > 99999 || what < 0 || what > 1 || w.events.get(e).kind.equals("turn")) {
            return Long.MIN_VALUE;
        }
        Event x = w.events.get(e);
        long above = x.kind.equals("money") ? p - x.c : (long) x.b * p + (x.kind.equals("rights") ? x.a * x.c : 0);
        long below = x.kind.equals("money") ? 1 : x.a + x.b;
        long common = BigInteger.valueOf(above).gcd(BigInteger.valueOf(below)).longValueExact();
        return (what == 0 ? above : below) / common;
    }

    private World later(int n) {
        World w = anew();
        for (int i = 0; i < n && w.day < 999; i++) {
            w.aDay();
        }
        return w;
    }

    long ahead(int h, int p, int n) {
        return world().isHolder(h) && world().isPaper(p) && n >= 0 && n <= 99 ? later(n).has[h][p].longValueExact() : -1;
    }

    long purseAhead(int h, int n) {
        return world().isHolder(h) && n >= 0 && n <= 99 ? later(n).purse[h].longValueExact() : Long.MIN_VALUE;
    }

    int waits(int t) {
        if (t < 0 || t >= world().trades.size()) {
            return -2;
        }
        if (world().trades.get(t).state != 0) {
            return -1;
        }
        World w = anew();
        for (int n = 1; n <= 99 && w.day < 999; n++) {
            w.aDay();
            if (w.trades.get(t).state != 0) {
                return n;
            }
        }
        return -1;
    }

    long wants(int h, int p) {
        World w = world();
        if (!w.isHolder(h) || !w.isPaper(p)) {
            return -1;
        }
        BigInteger sum = w.has[h][p].negate();
        for (Trade t : w.trades) {
            if (t.seller == h && t.paper == p && t.state == 0) {
                sum = sum.add(t.shares);
            }
        }
        return sum.max(BigInteger.ZERO).longValueExact();
    }

    int carries(int p, int within, int what) {
        World w = world();
        if (!w.isPaper(p) || within < 1 || within > 9 || what < 0 || what > 2) {
            return -1;
        }
        int bits = 0;
        for (int e = 0; e < w.events.size(); e++) {
            Event x = w.events.get(e);
            boolean ahead = w.day < x.ex;
            boolean by = w.day + within <= x.record;
            if (x.paper == p && x.state == 0 && !x.kind.equals("turn")
                    && new boolean[] {ahead && by, ahead && !by, !ahead && by}[what]) {
                bits += 1 << e;
            }
        }
        return bits;
    }

    long worst(int e, int what) {
        World w = world();
        if (!w.isEvent(e) || w.events.get(e).claims.isEmpty() || what < 0 || what > 1) {
            return -1;
        }
        long[] sum = new long[10];
        for (Claim c : w.events.get(e).claims) {
            sum[c.from] += c.shares.longValueExact();
        }
        long most = Arrays.stream(sum).max().getAsLong();
        int who = 0;
        while (sum[who] != most) {
            who++;
        }
        return what == 0 ? who : most;
    }

    int show(int h) {
        World w = world();
        if (!w.isHolder(h)) {
            return -1;
        }
        StringBuilder s = new StringBuilder(holders.get(h) + ":");
        for (int p = 0; p < papers.size(); p++) {
            if (w.has[h][p].signum() != 0) {
                s.append(" " + w.has[h][p] + " " + papers.get(p) + ",");
            }
        }
        shown = s + " " + w.purse[h] + ".";
        return shown.length();
    }

    int out(int i) {
        return i >= 0 && i < shown.length() ? shown.charAt(i) : -1;
    }

    int named(int what) {
        String name = tape.toString().replaceAll("^[ \n]+|[ \n]+$", "");
        tape.setLength(0);
        return what == 0 ? holders.indexOf(name) : what == 1 ? papers.indexOf(name) : -1;
    }

    int look(int what) {
        World w = world();
        int open = 0;
        int late = 0;
        for (Trade t : w.trades) {
            open += t.state == 0 ? 1 : 0;
            late += t.state == 0 && w.day > t.due ? 1 : 0;
        }
        int waiting = 0;
        for (int e = 0; e < w.events.size(); e++) {
            waiting += event(e, 7);
        }
        int[] all = {holders.size(), papers.size(), w.trades.size(), w.events.size(), w.day, open, late, waiting, kept,
            tape.length()};
        return what >= 0 && what < all.length ? all[what] : -1;
    }

    // ---- the world

    private static final class Trade {
        int buyer;
        int seller;
        int paper;
        BigInteger shares;
        BigInteger amount;
        int told;
        int due;
        int state = 0;
        int ended = -1;
    }

    private static final class Claim {
        int from;
        int to;
        BigInteger shares;
        int trade;
        int state = 0;
    }

    private static final class Event {
        String kind;
        int paper;
        int into;
        int a = 0;
        int b = 1;
        int c = 0;
        int cash = 0;
        int until;
        int ex;
        int record;
        int pay;
        int state = 0;
        BigInteger[] written = World.zeros();
        BigInteger[] taken = World.zeros();
        BigInteger[] sold = World.zeros();
        BigInteger[] lapsed = World.zeros();
        int[] take = new int[10];
        int[] sell = new int[10];
        List<Claim> claims = new ArrayList<>();
        BigInteger cameShares = BigInteger.ZERO;
        BigInteger cameMoney = BigInteger.ZERO;

        BigInteger whole(BigInteger n) {
            return n.multiply(World.big(a)).divide(World.big(b));
        }

        BigInteger each(BigInteger n) {
            return n.multiply(World.big(c));
        }

        BigInteger part(BigInteger n) {
            return n.multiply(World.big(a)).mod(World.big(b)).multiply(World.big(cash)).divide(World.big(b));
        }
    }

    private static final class World {
        final int holders;
        final int papers;
        int day = 0;
        BigInteger[][] has = new BigInteger[10][5];
        BigInteger[] purse = zeros();
        List<Trade> trades = new ArrayList<>();
        List<Event> events = new ArrayList<>();

        World(int holders, int papers, long[][] start) {
            this.holders = holders;
            this.papers = papers;
            for (int h = 0; h < 10; h++) {
                for (int p = 0; p < 5; p++) {
                    has[h][p] = big(start[h][p]);
                }
            }
        }

        static BigInteger big(long n) {
            return BigInteger.valueOf(n);
        }

        static BigInteger[] zeros() {
            BigInteger[] z = new BigInteger[10];
            Arrays.fill(z, BigInteger.ZERO);
            return z;
        }

        boolean isHolder(int h) {
            return h >= 0 && h < holders;
        }

        boolean isPaper(int p) {
            return p >= 0 && p < papers;
        }

        boolean isEvent(int e) {
            return e >= 0 && e < events.size();
        }

        static boolean in(long n, long least, long most) {
            return least <= n && n <= most;
        }

        int does(String kind, int[] v) {
            switch (kind) {
                case "trade":
                    return trade(v);
                case "choose":
                    return choice(v);
                case "days":
                    if (!in(v[0], 1, 99) || !in(day + v[0], 1, 999)) {
                        return -1;
                    }
                    for (int i = 0; i < v[0]; i++) {
                        aDay();
                    }
                    return day;
                default:
                    return event(kind, v);
            }
        }

        private int trade(int[] v) {
            if (trades.size() == 60 || !isHolder(v[0]) || !isHolder(v[1]) || v[0] == v[1] || !isPaper(v[2])
                    || !in(v[3], 1, 100000) || !in(v[4], 0, 99999999) || !in(v[5], 1, 9)) {
                return -1;
            }
            Trade t = new Trade();
            t.buyer = v[0];
            t.seller = v[1];
            t.paper = v[2];
            t.shares = big(v[3]);
            t.amount = big(v[4]);
            t.told = day;
            t.due = day + v[5];
            trades.add(t);
            return trades.size() - 1;
        }

        private int choice(int[] v) {
            if (!isEvent(v[0]) || !isHolder(v[1]) || !in(v[2], 0, 999999999) || !in(v[3], 0, 999999999)) {
                return -1;
            }
            Event e = events.get(v[0]);
            if (!e.kind.equals("rights") || e.state > 1 || day > e.until) {
                return -1;
            }
            e.take[v[1]] = v[2];
            e.sell[v[1]] = v[3];
            return 0;
        }

        /** The values come in the order of the text. */
        private int event(String kind, int[] v) {
            Event e = new Event();
            e.kind = kind;
            e.paper = v[0];
            boolean can = events.size() < 8 && isPaper(v[0]);
            int[] when;
            if (kind.equals("money")) {
                e.c = v[1];
                can &= in(e.c, 1, 999);
                when = Arrays.copyOfRange(v, 2, 5);
            } else {
                int from = kind.equals("turn") ? 2 : 1;
                e.a = v[from];
                e.b = v[from + 1];
                can &= in(e.a, 1, 9) && in(e.b, 1, 9);
                e.c = kind.equals("gift") ? 0 : v[from + 2];
                e.cash = kind.equals("gift") ? v[from + 2] : v[from + 3];
                can &= in(e.c, 0, 999) && in(e.cash, 0, 999);
                if (kind.equals("turn")) {
                    e.into = v[1];
                    can &= isPaper(e.into) && e.into != e.paper;
                    when = new int[] {v[6], v[6], v[6]};
                } else {
                    when = Arrays.copyOfRange(v, v.length - 3, v.length);
                }
            }
            e.ex = when[0];
            e.record = when[1];
            e.pay = when[2];
            can &= day < e.ex && e.ex <= e.record && e.record <= e.pay && e.pay <= 999;
            if (kind.equals("rights")) {
                e.until = v[5];
                can &= e.record <= e.until && e.until <= e.pay;
            }
            if (!can) {
                return -1;
            }
            events.add(e);
            return events.size() - 1;
        }

        private void pay(int from, int to, BigInteger amount) {
            purse[from] = purse[from].subtract(amount);
            purse[to] = purse[to].add(amount);
        }

        private boolean give(int from, int to, int p, BigInteger n) {
            if (has[from][p].compareTo(n) < 0) {
                return false;
            }
            has[from][p] = has[from][p].subtract(n);
            has[to][p] = has[to][p].add(n);
            return true;
        }

        void aDay() {
            day++;
            for (Trade t : trades) {
                if (t.state == 0 && t.due <= day && give(t.seller, t.buyer, t.paper, t.shares)) {
                    pay(t.buyer, t.seller, t.amount);
                    t.state = 1;
                    t.ended = day;
                }
            }
            for (Event e : events) {
                if (e.state == 0 && e.record == day) {
                    write(e);
                }
            }
            for (Event e : events) {
                if (e.state == 1 && e.pay == day) {
                    e.state = 2;
                    if (e.kind.equals("rights")) {
                        payRights(e);
                    } else {
                        payOut(e);
                    }
                }
            }
            for (Event e : events) {
                for (Claim c : e.claims) {
                    if (c.state == 2) {
                        tryClaim(e, c);
                    }
                }
            }
        }

        private void write(Event e) {
            for (int h = 0; h < holders; h++) {
                e.written[h] = has[h][e.paper];
            }
            if (e.kind.equals("turn")) {
                turn(e);
                return;
            }
            e.state = 1;
            for (Trade t : trades) {
                boolean early = t.told < e.ex;
                if (t.paper == e.paper && (early ? t.state == 0 : t.state == 1)) {
                    Claim c = new Claim();
                    c.from = early ? t.seller : t.buyer;
                    c.to = early ? t.buyer : t.seller;
                    c.shares = t.shares;
                    c.trade = trades.indexOf(t);
                    e.claims.add(c);
                }
            }
        }

        private void turn(Event e) {
            e.state = 2;
            for (int h = 0; h < holders; h++) {
                BigInteger n = has[h][e.paper];
                BigInteger money = e.each(n).add(e.part(n));
                has[h][e.paper] = BigInteger.ZERO;
                has[h][e.into] = has[h][e.into].add(e.whole(n));
                purse[h] = purse[h].add(money);
                e.cameShares = e.cameShares.add(e.whole(n));
                e.cameMoney = e.cameMoney.add(money);
            }
            for (Trade t : trades) {
                if (t.state == 0 && t.paper == e.paper) {
                    BigInteger n = t.shares;
                    t.paper = e.into;
                    t.shares = e.whole(n);
                    t.amount = t.amount.subtract(e.each(n)).subtract(e.part(n));
                    if (t.shares.signum() == 0) {
                        t.state = 2;
                        t.ended = day;
                        pay(t.buyer, t.seller, t.amount);
                    }
                }
            }
            for (Event o : events) {
                boolean behind = o.record > day || o.record == day && events.indexOf(o) > events.indexOf(e);
                if (o.paper == e.paper && behind && o.state == 0) {
                    o.state = 3;
                }
            }
        }

        private void payOut(Event e) {
            for (int h = 0; h < holders; h++) {
                BigInteger n = e.written[h];
                BigInteger money = e.each(n).add(e.part(n));
                has[h][e.paper] = has[h][e.paper].add(e.whole(n));
                purse[h] = purse[h].add(money);
                e.cameShares = e.cameShares.add(e.whole(n));
                e.cameMoney = e.cameMoney.add(money);
            }
            for (Claim c : e.claims) {
                tryClaim(e, c);
            }
        }

        private void tryClaim(Event e, Claim c) {
            if (give(c.from, c.to, e.paper, e.whole(c.shares))) {
                pay(c.from, c.to, e.each(c.shares).add(e.part(c.shares)));
                c.state = 1;
            } else {
                c.state = 2;
            }
        }

        private void payRights(Event e) {
            for (int h = 0; h < holders; h++) {
                BigInteger r = e.whole(e.written[h]);
                for (Claim c : e.claims) {
                    r = c.to == h ? r.add(e.whole(c.shares)) : c.from == h ? r.subtract(e.whole(c.shares)) : r;
                }
                BigInteger money;
                if (r.signum() < 0) {
                    e.lapsed[h] = r;
                    money = r.multiply(big(e.cash));
                } else {
                    e.taken[h] = r.min(big(e.take[h]));
                    e.sold[h] = r.subtract(e.taken[h]).min(big(e.sell[h]));
                    e.lapsed[h] = r.subtract(e.taken[h]).subtract(e.sold[h]);
                    money = e.sold[h].multiply(big(e.cash)).subtract(e.taken[h].multiply(big(e.c)));
                    has[h][e.paper] = has[h][e.paper].add(e.taken[h]);
                    e.cameShares = e.cameShares.add(e.taken[h]);
                }
                purse[h] = purse[h].add(money);
                e.cameMoney = e.cameMoney.add(money);
            }
            for (Claim c : e.claims) {
                c.state = 1;
            }
        }
    }
}
