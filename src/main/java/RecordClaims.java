/**
 * Who is owed what when papers change hands about the day on which it is
 * written down who holds them. The document that binds it is shared/DOC.md;
 * words in capitals in these comments are the document's terms.
 */
public final class RecordClaims {
    public static final int NONE = -1;

    /** The document's Long.MIN_VALUE, for answers of which NONE could be one. */
    private static final long NOTHING = 1L << 63;

    /** What waits() answers of a TRADE that is not there. */
    private static final int NO_TRADE = -2;

    private static final int HOLDERS = 10;
    private static final int PAPERS = 5;
    private static final int TRADES = 60;
    private static final int EVENTS = 8;
    private static final int LAST_DAY = 999;
    private static final int MOST_KEPT = 6;
    private static final int MOST_SHARES = 100000;
    private static final int MOST_AMOUNT = 99999999;
    private static final int MOST_MONEY = 999;
    private static final int MOST_RATIO = 9;
    private static final int MOST_WITHIN = 9;
    private static final int USUAL_WITHIN = 2;
    private static final int MOST_CHOSEN = 999999999;
    private static final int MOST_DAYS = 99;
    private static final int MOST_WORTH = 99999;
    /** Far above what Euclid's way takes for numbers such as stand below (18 at most). */
    private static final int MOST_STEPS = 1000;

    private static final int TAPE_BYTES = 700;
    private static final int FEED_BYTES = 20;
    private static final int MOST_LETTERS = 6;
    private static final int MOST_DIGITS = 9;
    /** Five bits hold a letter, so that six letters fit an int. */
    private static final int LETTER_BITS = 5;
    /** In the order of the W_ numbers; each word ends with a blank: keywordOf looks there. */
    private static final String KEYWORDS = "holder paper has trade within money gift rights turn into for at worth until plus cash ex record pay choose days ";
    private static final int W_HOLDER = 0;
    private static final int W_PAPER = 1;
    private static final int W_HAS = 2;
    private static final int W_TRADE = 3;
    private static final int W_WITHIN = 4;
    private static final int W_MONEY = 5;
    private static final int W_GIFT = 6;
    private static final int W_RIGHTS = 7;
    private static final int W_TURN = 8;
    private static final int W_INTO = 9;
    private static final int W_FOR = 10;
    private static final int W_AT = 11;
    private static final int W_WORTH = 12;
    private static final int W_UNTIL = 13;
    private static final int W_PLUS = 14;
    private static final int W_CASH = 15;
    private static final int W_EX = 16;
    private static final int W_RECORD = 17;
    private static final int W_PAY = 18;
    private static final int W_CHOOSE = 19;
    private static final int W_DAYS = 20;

    private static final int AT_END = 0;
    private static final int AT_KEYWORD = 1;
    private static final int AT_NAME = 2;
    private static final int AT_NUMBER = 3;
    private static final int AT_STOP = 4;
    private static final int AT_OTHER = 5;

    private static final int FAULT_STANDS = 1;
    private static final int FAULT_NAME = 2;
    private static final int FAULT_NUMBER = 3;
    private static final int FAULT_TOO_MANY = 4;

    /** The kinds of EVENTS, as event() answers them, and behind them the other deeds. */
    private static final int MONEY = 0;
    private static final int GIFT = 1;
    private static final int RIGHTS = 2;
    private static final int TURN = 3;
    private static final int TRADE = 4;
    private static final int CHOICE = 5;
    private static final int PASSING = 6;

    private static final int OPEN = 0;
    private static final int SETTLED = 1;
    private static final int TURNED = 2;

    private static final int TO_COME = 0;
    private static final int WRITTEN = 1;
    private static final int PAID = 2;
    private static final int DROPPED = 3;

    private static final int CLAIM_UNPAID = 0;
    private static final int CLAIM_PAID = 1;
    private static final int CLAIM_WAITS = 2;

    private final Tape tape = new Tape();
    private Book book = new Book();
    private Book draft = new Book();
    private final Deed deed = new Deed();
    private final State now = new State();
    private final History history = new History();
    private final Shown shown = new Shown();
    private final Netting netting = new Netting();

    public RecordClaims() {
    }

    public int feed(int a, int b, int c, int d, int e) {
        if (tape.length > TAPE_BYTES - FEED_BYTES) {
            return NONE;
        }
        tape.addBytes(a);
        tape.addBytes(b);
        tape.addBytes(c);
        tape.addBytes(d);
        tape.addBytes(e);
        return tape.length;
    }

    public boolean end(int n) {
        if (n < 0 || n > tape.length) {
            return false;
        }
        tape.length = n;
        return true;
    }

    public int book() {
        int lines = draft.readBook(tape);
        tape.length = 0;
        if (lines != NONE) {
            Book read = draft;
            draft = book;
            book = read;
            now.startWith(book);
            history.count = 0;
        }
        return lines;
    }

    public int deeds() {
        int count = readAhead();
        int done = count == NONE ? NONE : doWhatWasRead(count);
        tape.length = 0;
        return done;
    }

    /** How many DEEDS stand on THE TAPE; NONE with a FAULT. */
    private int readAhead() {
        int count = 0;
        tape.startReading();
        while (count < TAPE_BYTES && tape.goesOn()) {
            deed.readFrom(tape, book);
            count++;
        }
        return tape.fault == 0 ? count : NONE;
    }

    private int doWhatWasRead(int count) {
        int done = 0;
        history.spare().copyFrom(now);
        tape.startAgain();
        while (done < count) {
            deed.readFrom(tape, book);
            if (now.perform(deed) == NONE) {
                break;
            }
            done++;
        }
        if (done > 0) {
            history.keepSpare();
        }
        return done;
    }

    public int fault(int what) {
        switch (what) {
            case 0:
                return tape.fault;
            case 1:
                return tape.faultPlace;
            default:
                return NONE;
        }
    }

    public int trade(int buyer, int seller, int paper, int shares, int amount, int within) {
        deed.begin(TRADE, paper);
        deed.holder = buyer;
        deed.seller = seller;
        deed.shares = shares;
        deed.amount = amount;
        deed.within = within;
        return doDeed();
    }

    public int money(int paper, int c, int ex, int record, int pay) {
        deed.begin(MONEY, paper);
        deed.c = c;
        deed.setWhen(ex, record, pay);
        return doDeed();
    }

    public int gift(int paper, int ab, int cash, int ex, int record, int pay) {
        deed.begin(GIFT, paper);
        deed.setRatio(ab);
        deed.cash = cash;
        deed.setWhen(ex, record, pay);
        return doDeed();
    }

    public int rights(int paper, int ab, int prices, int until, int ex, int record, int pay) {
        deed.begin(RIGHTS, paper);
        deed.setRatio(ab);
        deed.setPrices(prices);
        deed.until = until;
        deed.setWhen(ex, record, pay);
        return doDeed();
    }

    public int turn(int paper, int into, int ab, int prices, int record) {
        deed.begin(TURN, paper);
        deed.into = into;
        deed.setRatio(ab);
        deed.setPrices(prices);
        deed.setWhen(record, record, record);
        return doDeed();
    }

    public boolean choose(int event, int holder, int take, int sell) {
        deed.begin(CHOICE, NONE);
        deed.event = event;
        deed.holder = holder;
        deed.take = take;
        deed.sell = sell;
        return doDeed() != NONE;
    }

    public int days(int n) {
        deed.begin(PASSING, NONE);
        deed.days = n;
        return doDeed();
    }

    /** What the deed answers; it can be undone then, unless that is NONE. */
    private int doDeed() {
        history.spare().copyFrom(now);
        int answer = now.perform(deed);
        if (answer != NONE) {
            history.keepSpare();
        }
        return answer;
    }

    public int undo() {
        if (history.count == 0) {
            return NONE;
        }
        now.copyFrom(history.takeLatest());
        return history.count;
    }

    public long has(int holder, int paper) {
        return now.isHolder(holder) && now.isPaper(paper) ? now.sharesOf(holder, paper) : NONE;
    }

    public long purse(int holder) {
        return now.isHolder(holder) ? now.purses[holder] : NOTHING;
    }

    public long told(int trade, int what) {
        return now.trades.isThere(trade) ? now.trades.partOf(trade, what) : NOTHING;
    }

    public int event(int event, int what) {
        return now.events.isThere(event) ? now.events.partOf(event, what) : NONE;
    }

    public long written(int event, int holder, int what) {
        return now.events.isThere(event) && now.isHolder(holder) ? now.entryOf(event, holder, what) : NOTHING;
    }

    public long claim(int event, int i, int what) {
        return now.isClaim(event, i) ? now.claimPart(event, i, what) : NONE;
    }

    public long issued(int event, int what) {
        if (!now.events.isThere(event)) {
            return NOTHING;
        }
        switch (what) {
            case 0:
                return now.events.issuedShares[event];
            case 1:
                return now.events.issuedMoney[event];
            default:
                return NOTHING;
        }
    }

    public long net(int event, int i, int what) {
        if (!now.events.isThere(event) || i < NONE) {
            return NONE;
        }
        return netting.answer(now, event, i, what);
    }

    public long worth(int event, int p, int what) {
        if (!now.events.isThere(event) || p < 0 || p > MOST_WORTH) {
            return NOTHING;
        }
        return now.events.worthBehind(event, p, what);
    }

    public long ahead(int holder, int paper, int n) {
        if (!now.isHolder(holder) || !now.isPaper(paper) || !isAhead(n)) {
            return NONE;
        }
        return stateAhead(n).sharesOf(holder, paper);
    }

    public long purseAhead(int holder, int n) {
        if (!now.isHolder(holder) || !isAhead(n)) {
            return NOTHING;
        }
        return stateAhead(n).purses[holder];
    }

    private static boolean isAhead(int n) {
        return n >= 0 && n <= MOST_DAYS;
    }

    /** The state n DAYS from now: it stands in the spare row, which the next deed overwrites. */
    private State stateAhead(int n) {
        State later = history.spare();
        later.copyFrom(now);
        later.passDays(Math.min(n, LAST_DAY - later.day));
        return later;
    }

    public int waits(int trade) {
        if (!now.trades.isThere(trade)) {
            return NO_TRADE;
        }
        if (now.trades.state[trade] != OPEN) {
            return NONE;
        }
        State later = stateAhead(0);
        for (int i = 1; i <= MOST_DAYS && later.day < LAST_DAY; i++) {
            later.passDays(1);
            if (later.trades.state[trade] != OPEN) {
                return i;
            }
        }
        return NONE;
    }

    public long wants(int holder, int paper) {
        if (!now.isHolder(holder) || !now.isPaper(paper)) {
            return NONE;
        }
        return Math.max(0L, now.trades.openSharesFrom(holder, paper) - now.sharesOf(holder, paper));
    }

    public int carries(int paper, int within, int what) {
        if (!now.isPaper(paper) || within < 1 || within > MOST_WITHIN || what < 0 || what > 2) {
            return NONE;
        }
        int bits = 0;
        for (int e = 0; e < now.events.count; e++) {
            if (now.events.carriesTo(e, paper, what, now.day, now.day + within)) {
                bits |= 1 << e;
            }
        }
        return bits;
    }

    public long worst(int event, int what) {
        if (!now.events.isThere(event) || now.events.claims[event] == 0) {
            return NONE;
        }
        int holder = now.worstOf(event);
        switch (what) {
            case 0:
                return holder;
            case 1:
                return now.claimedFrom(event, holder);
            default:
                return NONE;
        }
    }

    public int show(int holder) {
        if (!now.isHolder(holder)) {
            return NONE;
        }
        shown.tell(now, book, holder);
        return shown.length;
    }

    public int out(int i) {
        return i >= 0 && i < shown.length ? shown.bytes[i] : NONE;
    }

    public int named(int what) {
        int name = tape.nameAlone();
        tape.length = 0;
        switch (what) {
            case 0:
                return book.holderNamed(name);
            case 1:
                return book.paperNamed(name);
            default:
                return NONE;
        }
    }

    public int look(int what) {
        switch (what) {
            case 0:
                return now.holders;
            case 1:
                return now.papers;
            case 2:
                return now.trades.count;
            case 3:
                return now.events.count;
            case 4:
                return now.day;
            case 5:
                return now.trades.openDueBy(LAST_DAY + MOST_WITHIN);
            case 6:
                return now.trades.openDueBy(now.day - 1);
            case 7:
                return now.events.waitingInAll();
            case 8:
                return history.count;
            case 9:
                return tape.length;
            default:
                return NONE;
        }
    }

    private static boolean isWithin(int n, int least, int most) {
        return n >= least && n <= most;
    }

    /** THE TAPE, the tokens that stand on it, and the FAULT met in reading them. */
    private static final class Tape {
        final byte[] bytes = new byte[TAPE_BYTES];
        int length;
        /** The end is a token too, so that there is one more than there are bytes. */
        final int[] kinds = new int[TAPE_BYTES + 1];
        final int[] places = new int[TAPE_BYTES + 1];
        final int[] values = new int[TAPE_BYTES + 1];
        /** The token that stands next. */
        int at;
        int fault;
        int faultPlace = NONE;

        void addBytes(int four) {
            for (int shift = 24; shift >= 0; shift -= 8) {
                if (length < TAPE_BYTES) {
                    bytes[length] = (byte) (four >>> shift);
                    length++;
                }
            }
        }

        void startReading() {
            scanAll();
            startAgain();
        }

        void startAgain() {
            fault = 0;
            faultPlace = NONE;
            at = 0;
        }

        private void scanAll() {
            int token = 0;
            int place = 0;
            while (place < length && token < TAPE_BYTES) {
                if (bytes[place] == 32 || bytes[place] == 10) {
                    place++;
                } else {
                    place = scanToken(token, place);
                    token++;
                }
            }
            kinds[token] = AT_END;
            places[token] = length;
        }

        /** Where the token ends that begins at this place. */
        private int scanToken(int token, int place) {
            places[token] = place;
            if (isLetter(bytes[place])) {
                return scanWord(token, place);
            }
            if (isDigit(bytes[place])) {
                return scanNumber(token, place);
            }
            kinds[token] = bytes[place] == ';' ? AT_STOP : AT_OTHER;
            return place + 1;
        }

        private int scanWord(int token, int from) {
            int code = 0;
            int place = from;
            while (place < length && isLetter(bytes[place])) {
                code = withLetter(code, bytes[place]);
                place++;
            }
            int keyword = keywordOf(code);
            if (place - from > MOST_LETTERS) {
                kinds[token] = AT_OTHER;
            } else if (keyword != NONE) {
                kinds[token] = AT_KEYWORD;
                values[token] = keyword;
            } else {
                kinds[token] = AT_NAME;
                values[token] = code;
            }
            return place;
        }

        private int scanNumber(int token, int from) {
            int number = 0;
            int place = from;
            while (place < length && isDigit(bytes[place])) {
                number = number * 10 + bytes[place] - '0';
                place++;
            }
            kinds[token] = place - from > MOST_DIGITS ? AT_OTHER : AT_NUMBER;
            values[token] = number;
            return place;
        }

        private static boolean isLetter(int c) {
            return c >= 'a' && c <= 'z';
        }

        private static boolean isDigit(int c) {
            return c >= '0' && c <= '9';
        }

        private static int withLetter(int code, int letter) {
            return code << LETTER_BITS | letter - 'a' + 1;
        }

        private static int keywordOf(int code) {
            int number = 0;
            int each = 0;
            for (int i = 0; i < KEYWORDS.length(); i++) {
                char c = KEYWORDS.charAt(i);
                if (c != ' ') {
                    each = withLetter(each, c);
                } else if (each == code) {
                    return number;
                } else {
                    number++;
                    each = 0;
                }
            }
            return NONE;
        }

        boolean goesOn() {
            return fault == 0 && kinds[at] != AT_END;
        }

        /** Only the first FAULT counts: nothing is taken behind it. */
        void fail(int which) {
            if (fault == 0) {
                fault = which;
                faultPlace = places[at];
            }
        }

        boolean isAtWord(int keyword) {
            return kinds[at] == AT_KEYWORD && values[at] == keyword;
        }

        /** Goes on behind the word if it stands here. */
        boolean passesWord(int keyword) {
            if (fault != 0 || !isAtWord(keyword)) {
                return false;
            }
            at++;
            return true;
        }

        void takeWord(int keyword) {
            if (!isAtWord(keyword)) {
                fail(FAULT_STANDS);
            }
            if (fault == 0) {
                at++;
            }
        }

        void takeStop() {
            if (kinds[at] != AT_STOP) {
                fail(FAULT_STANDS);
            }
            if (fault == 0) {
                at++;
            }
        }

        int takeNumber() {
            if (kinds[at] != AT_NUMBER) {
                fail(FAULT_STANDS);
            }
            return takeValue();
        }

        void failBeyond(int most) {
            if (kinds[at] == AT_NUMBER && values[at] > most) {
                fail(FAULT_NUMBER);
            }
        }

        /** The place among these of the NAME that stands here. */
        int takeKnown(int[] names, int count) {
            int found = indexOf(names, count, values[at]);
            if (kinds[at] != AT_NAME) {
                fail(FAULT_STANDS);
            } else if (found == NONE) {
                fail(FAULT_NAME);
            }
            return takeValue() == NONE ? NONE : found;
        }

        /** The code of the NAME that stands here, which these must not have. */
        int takeNew(Book names) {
            if (kinds[at] != AT_NAME) {
                fail(FAULT_STANDS);
            } else if (names.hasName(values[at])) {
                fail(FAULT_NAME);
            }
            return takeValue();
        }

        /** Only behind a look at the token's kind: the end is never passed. */
        private int takeValue() {
            if (fault != 0) {
                return NONE;
            }
            int taken = values[at];
            at++;
            return taken;
        }

        /** The code of the NAME that stands alone; NONE if none does. It leaves the FAULT as it is. */
        int nameAlone() {
            scanAll();
            return kinds[0] == AT_NAME && kinds[1] == AT_END ? values[0] : NONE;
        }

        static int indexOf(int[] names, int count, int name) {
            for (int i = 0; i < count && i < names.length; i++) {
                if (names[i] == name) {
                    return i;
                }
            }
            return NONE;
        }
    }

    /** What a BOOK tells: the NAMES of HOLDERS and PAPERS (as codes), and SHARES. */
    private static final class Book {
        final int[] holderNames = new int[HOLDERS];
        final int[] paperNames = new int[PAPERS];
        final long[] shares = new long[HOLDERS * PAPERS];
        int holders;
        int papers;

        int holderNamed(int name) {
            return Tape.indexOf(holderNames, holders, name);
        }

        int paperNamed(int name) {
            return Tape.indexOf(paperNames, papers, name);
        }

        int takeHolder(Tape tape) {
            return tape.takeKnown(holderNames, holders);
        }

        int takePaper(Tape tape) {
            return tape.takeKnown(paperNames, papers);
        }

        /** How many LINES THE TAPE has; NONE with a FAULT. */
        int readBook(Tape tape) {
            int lines = 0;
            holders = 0;
            papers = 0;
            for (int i = 0; i < HOLDERS * PAPERS; i++) {
                shares[i] = 0;
            }
            tape.startReading();
            while (lines < TAPE_BYTES && tape.goesOn()) {
                readLine(tape);
                lines++;
            }
            return tape.fault == 0 ? lines : NONE;
        }

        private void readLine(Tape tape) {
            if (tape.isAtWord(W_HOLDER)) {
                readHolder(tape);
            } else if (tape.isAtWord(W_PAPER)) {
                readPaper(tape);
            } else {
                tape.takeWord(W_HAS);
                readShares(tape);
            }
            tape.takeStop();
        }

        private void readHolder(Tape tape) {
            if (holders >= HOLDERS) {
                tape.fail(FAULT_TOO_MANY);
            }
            tape.takeWord(W_HOLDER);
            int name = tape.takeNew(this);
            if (name != NONE && holders < HOLDERS) {
                holderNames[holders] = name;
                holders++;
            }
        }

        private void readPaper(Tape tape) {
            if (papers >= PAPERS) {
                tape.fail(FAULT_TOO_MANY);
            }
            tape.takeWord(W_PAPER);
            int name = tape.takeNew(this);
            if (name != NONE && papers < PAPERS) {
                paperNames[papers] = name;
                papers++;
            }
        }

        boolean hasName(int name) {
            return holderNamed(name) != NONE || paperNamed(name) != NONE;
        }

        private void readShares(Tape tape) {
            int holder = takeHolder(tape);
            int paper = takePaper(tape);
            tape.failBeyond(MOST_SHARES);
            int count = tape.takeNumber();
            if (holder != NONE && paper != NONE && count != NONE) {
                shares[holder * PAPERS + paper] = count;
            }
        }
    }

    /**
     * One deed, as a call or a text tells it. Of texts no N is a FAULT by its
     * size: one that can't be ends the doing, not the reading.
     */
    private static final class Deed {
        int kind;
        int paper;
        /** Of a TRADE who buys, of a choice who CHOOSES. */
        int holder;
        int seller;
        int shares;
        int amount;
        int within;
        int into;
        int a;
        int b;
        /** MONEY for each of the SHARES; of RIGHTS the price. */
        int c;
        /** What a whole one is worth where it is a part; of RIGHTS what each is worth. */
        int cash;
        int until;
        int ex;
        int record;
        int pay;
        int event;
        int take;
        int sell;
        int days;

        /** 0 for 1 until a ratio is told, so that no SHARES and no parts come of MONEY. */
        void begin(int newKind, int itsPaper) {
            kind = newKind;
            paper = itsPaper;
            into = NONE;
            a = 0;
            b = 1;
            c = 0;
            cash = 0;
            until = NONE;
        }

        void setRatio(int ab) {
            a = ab / 10;
            b = ab % 10;
        }

        void setPrices(int prices) {
            c = prices / 1000;
            cash = prices % 1000;
        }

        void setWhen(int exDay, int recordDay, int payDay) {
            ex = exDay;
            record = recordDay;
            pay = payDay;
        }

        void readFrom(Tape tape, Book names) {
            if (tape.passesWord(W_TRADE)) {
                readTrade(tape, names);
            } else if (tape.passesWord(W_MONEY)) {
                readMoney(tape, names);
            } else if (tape.passesWord(W_GIFT)) {
                readGift(tape, names);
            } else if (tape.passesWord(W_RIGHTS)) {
                readRights(tape, names);
            } else if (tape.passesWord(W_TURN)) {
                readTurn(tape, names);
            } else if (tape.passesWord(W_CHOOSE)) {
                readChoice(tape, names);
            } else {
                tape.takeWord(W_DAYS);
                begin(PASSING, NONE);
                days = tape.takeNumber();
            }
            tape.takeStop();
        }

        private void readTrade(Tape tape, Book names) {
            begin(TRADE, NONE);
            holder = names.takeHolder(tape);
            seller = names.takeHolder(tape);
            paper = names.takePaper(tape);
            shares = tape.takeNumber();
            amount = tape.takeNumber();
            within = tape.passesWord(W_WITHIN) ? tape.takeNumber() : USUAL_WITHIN;
        }

        private void readMoney(Tape tape, Book names) {
            begin(MONEY, names.takePaper(tape));
            c = tape.takeNumber();
            readWhen(tape);
        }

        private void readGift(Tape tape, Book names) {
            begin(GIFT, names.takePaper(tape));
            readRatio(tape);
            cash = takeBehind(tape, W_CASH);
            readWhen(tape);
        }

        private void readRights(Tape tape, Book names) {
            begin(RIGHTS, names.takePaper(tape));
            readRatio(tape);
            c = takeBehind(tape, W_AT);
            cash = takeBehind(tape, W_WORTH);
            until = takeBehind(tape, W_UNTIL);
            readWhen(tape);
        }

        private void readTurn(Tape tape, Book names) {
            begin(TURN, names.takePaper(tape));
            tape.takeWord(W_INTO);
            into = names.takePaper(tape);
            readRatio(tape);
            c = takeBehind(tape, W_PLUS);
            cash = takeBehind(tape, W_CASH);
            record = takeBehind(tape, W_RECORD);
            ex = record;
            pay = record;
        }

        private void readChoice(Tape tape, Book names) {
            begin(CHOICE, NONE);
            event = tape.takeNumber();
            holder = names.takeHolder(tape);
            take = tape.takeNumber();
            sell = tape.takeNumber();
        }

        private void readRatio(Tape tape) {
            a = tape.takeNumber();
            b = takeBehind(tape, W_FOR);
        }

        private void readWhen(Tape tape) {
            ex = takeBehind(tape, W_EX);
            record = takeBehind(tape, W_RECORD);
            pay = takeBehind(tape, W_PAY);
        }

        private static int takeBehind(Tape tape, int word) {
            tape.takeWord(word);
            return tape.takeNumber();
        }
    }

    /** All TRADES: the TRADE of a number has its place in every row. */
    private static final class Trades {
        final int[] buyer = new int[TRADES];
        final int[] seller = new int[TRADES];
        final int[] paper = new int[TRADES];
        final long[] shares = new long[TRADES];
        final long[] amount = new long[TRADES];
        final int[] told = new int[TRADES];
        final int[] due = new int[TRADES];
        final int[] state = new int[TRADES];
        final int[] ended = new int[TRADES];
        int count;

        boolean isThere(int trade) {
            return trade >= 0 && trade < count;
        }

        void copyFrom(Trades other) {
            count = other.count;
            System.arraycopy(other.buyer, 0, buyer, 0, TRADES);
            System.arraycopy(other.seller, 0, seller, 0, TRADES);
            System.arraycopy(other.paper, 0, paper, 0, TRADES);
            System.arraycopy(other.shares, 0, shares, 0, TRADES);
            System.arraycopy(other.amount, 0, amount, 0, TRADES);
            System.arraycopy(other.told, 0, told, 0, TRADES);
            System.arraycopy(other.due, 0, due, 0, TRADES);
            System.arraycopy(other.state, 0, state, 0, TRADES);
            System.arraycopy(other.ended, 0, ended, 0, TRADES);
        }

        /** The number of the new TRADE; whoever calls has looked whether it can be. */
        int add(Deed deed, int day) {
            int t = count;
            if (t >= TRADES) {
                return NONE;
            }
            buyer[t] = deed.holder;
            seller[t] = deed.seller;
            paper[t] = deed.paper;
            shares[t] = deed.shares;
            amount[t] = deed.amount;
            told[t] = day;
            due[t] = day + deed.within;
            state[t] = OPEN;
            ended[t] = NONE;
            count++;
            return t;
        }

        void finish(int trade, int how, int day) {
            state[trade] = how;
            ended[trade] = day;
        }

        long partOf(int trade, int what) {
            switch (what) {
                case 0:
                    return buyer[trade];
                case 1:
                    return seller[trade];
                case 2:
                    return paper[trade];
                case 3:
                    return shares[trade];
                case 4:
                    return amount[trade];
                case 5:
                    return told[trade];
                case 6:
                    return due[trade];
                case 7:
                    return state[trade];
                case 8:
                    return ended[trade];
                default:
                    return NOTHING;
            }
        }

        int openDueBy(int day) {
            int open = 0;
            for (int t = 0; t < count; t++) {
                if (state[t] == OPEN && due[t] <= day) {
                    open++;
                }
            }
            return open;
        }

        long openSharesFrom(int holder, int ofPaper) {
            long sum = 0;
            for (int t = 0; t < count; t++) {
                if (state[t] == OPEN && seller[t] == holder && paper[t] == ofPaper) {
                    sum += shares[t];
                }
            }
            return sum;
        }
    }

    /** All EVENTS: the EVENT of a number has its place in every row. */
    private static final class Events {
        final int[] kind = new int[EVENTS];
        final int[] paper = new int[EVENTS];
        final int[] into = new int[EVENTS];
        final int[] a = new int[EVENTS];
        final int[] b = new int[EVENTS];
        final int[] c = new int[EVENTS];
        final int[] cash = new int[EVENTS];
        final int[] until = new int[EVENTS];
        final int[] ex = new int[EVENTS];
        final int[] record = new int[EVENTS];
        final int[] pay = new int[EVENTS];
        final int[] state = new int[EVENTS];
        final int[] claims = new int[EVENTS];
        final int[] waiting = new int[EVENTS];
        final long[] issuedShares = new long[EVENTS];
        final long[] issuedMoney = new long[EVENTS];
        int count;

        boolean isThere(int event) {
            return event >= 0 && event < count;
        }

        void copyFrom(Events other) {
            count = other.count;
            System.arraycopy(other.kind, 0, kind, 0, EVENTS);
            System.arraycopy(other.paper, 0, paper, 0, EVENTS);
            System.arraycopy(other.into, 0, into, 0, EVENTS);
            System.arraycopy(other.a, 0, a, 0, EVENTS);
            System.arraycopy(other.b, 0, b, 0, EVENTS);
            System.arraycopy(other.c, 0, c, 0, EVENTS);
            System.arraycopy(other.cash, 0, cash, 0, EVENTS);
            System.arraycopy(other.until, 0, until, 0, EVENTS);
            System.arraycopy(other.ex, 0, ex, 0, EVENTS);
            System.arraycopy(other.record, 0, record, 0, EVENTS);
            System.arraycopy(other.pay, 0, pay, 0, EVENTS);
            System.arraycopy(other.state, 0, state, 0, EVENTS);
            System.arraycopy(other.claims, 0, claims, 0, EVENTS);
            System.arraycopy(other.waiting, 0, waiting, 0, EVENTS);
            System.arraycopy(other.issuedShares, 0, issuedShares, 0, EVENTS);
            System.arraycopy(other.issuedMoney, 0, issuedMoney, 0, EVENTS);
        }

        /** The number of the new EVENT; whoever calls has looked whether it can be. */
        int add(Deed deed) {
            int e = count;
            if (e >= EVENTS) {
                return NONE;
            }
            kind[e] = deed.kind;
            paper[e] = deed.paper;
            into[e] = deed.into;
            a[e] = deed.a;
            b[e] = deed.b;
            c[e] = deed.c;
            cash[e] = deed.cash;
            until[e] = deed.until;
            ex[e] = deed.ex;
            record[e] = deed.record;
            pay[e] = deed.pay;
            state[e] = TO_COME;
            claims[e] = 0;
            waiting[e] = 0;
            issuedShares[e] = 0;
            issuedMoney[e] = 0;
            count++;
            return e;
        }

        int partOf(int event, int what) {
            switch (what) {
                case 0:
                    return kind[event];
                case 1:
                    return paper[event];
                case 2:
                    return ex[event];
                case 3:
                    return record[event];
                case 4:
                    return pay[event];
                case 5:
                    return state[event];
                case 6:
                    return claims[event];
                case 7:
                    return waiting[event];
                default:
                    return NONE;
            }
        }

        int waitingInAll() {
            int sum = 0;
            for (int e = 0; e < count; e++) {
                sum += waiting[e];
            }
            return sum;
        }

        /** What n SHARES give of SHARES (of RIGHTS: of these). */
        long sharesFor(int event, long n) {
            int each = b[event];
            return each < 1 ? 0 : n * a[event] / each;
        }

        /** What MONEY goes with n SHARES: for each of them, and for the part of one that is left. */
        long moneyFor(int event, long n) {
            int each = b[event];
            if (kind[event] == RIGHTS || each < 1) {
                return 0;
            }
            return n * c[event] + n * a[event] % each * cash[event] / each;
        }

        void issue(int event, long shares, long money) {
            issuedShares[event] += shares;
            issuedMoney[event] += money;
        }

        boolean canBeChosen(int event, int day) {
            return kind[event] == RIGHTS && day <= until[event]
                    && (state[event] == TO_COME || state[event] == WRITTEN);
        }

        /** Those ahead of it in its own DAY are written already. */
        void dropBehind(int event) {
            for (int e = 0; e < count; e++) {
                boolean isLater = record[e] > record[event] || record[e] == record[event] && e > event;
                if (paper[e] == paper[event] && state[e] == TO_COME && isLater) {
                    state[e] = DROPPED;
                }
            }
        }

        boolean carriesTo(int event, int ofPaper, int what, int day, int due) {
            if (paper[event] != ofPaper || state[event] != TO_COME || kind[event] == TURN) {
                return false;
            }
            boolean isAheadOfEx = day < ex[event];
            boolean isDueByRecord = due <= record[event];
            switch (what) {
                case 0:
                    return isAheadOfEx && isDueByRecord;
                case 1:
                    return isAheadOfEx && !isDueByRecord;
                default:
                    return !isAheadOfEx && isDueByRecord;
            }
        }

        long worthBehind(int event, int p, int what) {
            switch (kind[event]) {
                case MONEY:
                    return partOfFraction(p - c[event], 1, what);
                case GIFT:
                    return partOfFraction((long) b[event] * p, a[event] + b[event], what);
                case RIGHTS:
                    return partOfFraction((long) b[event] * p + a[event] * c[event], a[event] + b[event], what);
                default:
                    return NOTHING;
            }
        }

        private static long partOfFraction(long above, long below, int what) {
            long common = commonDivisor(Math.abs(above), below);
            if (common < 1) {
                return NOTHING;
            }
            switch (what) {
                case 0:
                    return above / common;
                case 1:
                    return below / common;
                default:
                    return NOTHING;
            }
        }

        private static long commonDivisor(long m, long n) {
            long x = m;
            long y = n;
            for (int i = 0; i < MOST_STEPS && y > 0; i++) {
                long rest = x % y;
                x = y;
                y = rest;
            }
            return x;
        }
    }

    /** What is noted of each HOLDER for each EVENT. */
    private static final class Notes {
        final long[] written = new long[EVENTS * HOLDERS];
        final long[] take = new long[EVENTS * HOLDERS];
        final long[] sell = new long[EVENTS * HOLDERS];
        final long[] taken = new long[EVENTS * HOLDERS];
        final long[] sold = new long[EVENTS * HOLDERS];
        final long[] lapsed = new long[EVENTS * HOLDERS];

        static int at(int event, int holder) {
            return event * HOLDERS + holder;
        }

        void copyFrom(Notes other) {
            System.arraycopy(other.written, 0, written, 0, EVENTS * HOLDERS);
            System.arraycopy(other.take, 0, take, 0, EVENTS * HOLDERS);
            System.arraycopy(other.sell, 0, sell, 0, EVENTS * HOLDERS);
            System.arraycopy(other.taken, 0, taken, 0, EVENTS * HOLDERS);
            System.arraycopy(other.sold, 0, sold, 0, EVENTS * HOLDERS);
            System.arraycopy(other.lapsed, 0, lapsed, 0, EVENTS * HOLDERS);
        }

        void wipe(int event) {
            for (int h = 0; h < HOLDERS; h++) {
                int i = at(event, h);
                written[i] = 0;
                take[i] = 0;
                sell[i] = 0;
                taken[i] = 0;
                sold[i] = 0;
                lapsed[i] = 0;
            }
        }
    }

    /** The CLAIMS of all EVENTS: an EVENT has at most one for each TRADE. */
    private static final class Claims {
        final int[] from = new int[EVENTS * TRADES];
        final int[] to = new int[EVENTS * TRADES];
        final long[] shares = new long[EVENTS * TRADES];
        final int[] source = new int[EVENTS * TRADES];
        final int[] state = new int[EVENTS * TRADES];

        static int at(int event, int i) {
            return event * TRADES + i;
        }

        void copyFrom(Claims other) {
            System.arraycopy(other.from, 0, from, 0, EVENTS * TRADES);
            System.arraycopy(other.to, 0, to, 0, EVENTS * TRADES);
            System.arraycopy(other.shares, 0, shares, 0, EVENTS * TRADES);
            System.arraycopy(other.source, 0, source, 0, EVENTS * TRADES);
            System.arraycopy(other.state, 0, state, 0, EVENTS * TRADES);
        }

        void put(int place, int payer, int payee, long count, int trade) {
            from[place] = payer;
            to[place] = payee;
            shares[place] = count;
            source[place] = trade;
            state[place] = CLAIM_UNPAID;
        }
    }

    /** All that a DAY changes and that can be undone, and what a DAY does. */
    private static final class State {
        final long[] shares = new long[HOLDERS * PAPERS];
        final long[] purses = new long[HOLDERS];
        final Trades trades = new Trades();
        final Events events = new Events();
        final Notes notes = new Notes();
        final Claims claims = new Claims();
        int holders;
        int papers;
        int day;

        void startWith(Book book) {
            System.arraycopy(book.shares, 0, shares, 0, HOLDERS * PAPERS);
            for (int h = 0; h < HOLDERS; h++) {
                purses[h] = 0;
            }
            trades.count = 0;
            events.count = 0;
            holders = book.holders;
            papers = book.papers;
            day = 0;
        }

        void copyFrom(State other) {
            System.arraycopy(other.shares, 0, shares, 0, HOLDERS * PAPERS);
            System.arraycopy(other.purses, 0, purses, 0, HOLDERS);
            trades.copyFrom(other.trades);
            events.copyFrom(other.events);
            notes.copyFrom(other.notes);
            claims.copyFrom(other.claims);
            holders = other.holders;
            papers = other.papers;
            day = other.day;
        }

        boolean isHolder(int holder) {
            return holder >= 0 && holder < holders;
        }

        boolean isPaper(int paper) {
            return paper >= 0 && paper < papers;
        }

        boolean isClaim(int event, int i) {
            return events.isThere(event) && i >= 0 && i < events.claims[event];
        }

        long sharesOf(int holder, int paper) {
            return shares[holder * PAPERS + paper];
        }

        private void addShares(int holder, int paper, long more) {
            shares[holder * PAPERS + paper] += more;
        }

        private void moveMoney(int from, int to, long amount) {
            purses[from] -= amount;
            purses[to] += amount;
        }

        /** Does a deed if it can be: the number of a TRADE or an EVENT, the DAY, 0 of a choice; else NONE. */
        int perform(Deed deed) {
            switch (deed.kind) {
                case TRADE:
                    return tradeCanBe(deed) ? trades.add(deed, day) : NONE;
                case CHOICE:
                    return putChoice(deed);
                case PASSING:
                    return daysCanPass(deed.days) ? passDays(deed.days) : NONE;
                default:
                    return addEvent(deed);
            }
        }

        private boolean tradeCanBe(Deed deed) {
            return isHolder(deed.holder) && isHolder(deed.seller) && deed.holder != deed.seller
                    && isPaper(deed.paper) && isWithin(deed.shares, 1, MOST_SHARES)
                    && isWithin(deed.amount, 0, MOST_AMOUNT) && isWithin(deed.within, 1, MOST_WITHIN);
        }

        private int putChoice(Deed deed) {
            if (!events.isThere(deed.event) || !isHolder(deed.holder)
                    || !isWithin(deed.take, 0, MOST_CHOSEN) || !isWithin(deed.sell, 0, MOST_CHOSEN)
                    || !events.canBeChosen(deed.event, day)) {
                return NONE;
            }
            int place = Notes.at(deed.event, deed.holder);
            notes.take[place] = deed.take;
            notes.sell[place] = deed.sell;
            return 0;
        }

        private boolean daysCanPass(int n) {
            return isWithin(n, 1, MOST_DAYS) && day + n <= LAST_DAY;
        }

        private int addEvent(Deed deed) {
            if (!isPaper(deed.paper) || !termsCanBe(deed) || !whenCanBe(deed)) {
                return NONE;
            }
            int event = events.add(deed);
            if (event != NONE) {
                notes.wipe(event);
            }
            return event;
        }

        private boolean termsCanBe(Deed deed) {
            switch (deed.kind) {
                case MONEY:
                    return isWithin(deed.c, 1, MOST_MONEY);
                case TURN:
                    return isPaper(deed.into) && deed.into != deed.paper && ratioCanBe(deed);
                default:
                    return ratioCanBe(deed);
            }
        }

        private static boolean ratioCanBe(Deed deed) {
            return isWithin(deed.a, 1, MOST_RATIO) && isWithin(deed.b, 1, MOST_RATIO)
                    && isWithin(deed.c, 0, MOST_MONEY) && isWithin(deed.cash, 0, MOST_MONEY);
        }

        private boolean whenCanBe(Deed deed) {
            boolean isInOrder = deed.ex > day && deed.record >= deed.ex && deed.pay >= deed.record
                    && deed.pay <= LAST_DAY;
            boolean hasUntil = deed.kind == RIGHTS;
            return isInOrder && (!hasUntil || isWithin(deed.until, deed.record, deed.pay));
        }

        /** Which DAY it is then. */
        int passDays(int n) {
            for (int i = 0; i < n; i++) {
                day++;
                settleTrades();
                writeEvents();
                payEvents();
                payWaiting();
            }
            return day;
        }

        private void settleTrades() {
            for (int t = 0; t < trades.count; t++) {
                boolean isDue = trades.state[t] == OPEN && trades.due[t] <= day;
                if (isDue && sharesOf(trades.seller[t], trades.paper[t]) >= trades.shares[t]) {
                    addShares(trades.seller[t], trades.paper[t], -trades.shares[t]);
                    addShares(trades.buyer[t], trades.paper[t], trades.shares[t]);
                    moveMoney(trades.buyer[t], trades.seller[t], trades.amount[t]);
                    trades.finish(t, SETTLED, day);
                }
            }
        }

        private void writeEvents() {
            for (int e = 0; e < events.count; e++) {
                if (events.state[e] == TO_COME && events.record[e] == day) {
                    writeShares(e);
                    if (events.kind[e] == TURN) {
                        turnPaper(e);
                    } else {
                        makeClaims(e);
                        events.state[e] = WRITTEN;
                    }
                }
            }
        }

        private void writeShares(int event) {
            for (int h = 0; h < holders; h++) {
                notes.written[Notes.at(event, h)] = sharesOf(h, events.paper[event]);
            }
        }

        private void makeClaims(int event) {
            for (int t = 0; t < trades.count; t++) {
                boolean isAheadOfEx = trades.told[t] < events.ex[event];
                if (trades.paper[t] == events.paper[event]) {
                    if (trades.state[t] == OPEN && isAheadOfEx) {
                        addClaim(event, trades.seller[t], trades.buyer[t], t);
                    } else if (trades.state[t] == SETTLED && !isAheadOfEx) {
                        addClaim(event, trades.buyer[t], trades.seller[t], t);
                    }
                }
            }
        }

        private void addClaim(int event, int from, int to, int trade) {
            int i = events.claims[event];
            if (i < TRADES) {
                claims.put(Claims.at(event, i), from, to, trades.shares[trade], trade);
                events.claims[event] = i + 1;
            }
        }

        private void turnPaper(int event) {
            for (int h = 0; h < holders; h++) {
                long had = sharesOf(h, events.paper[event]);
                addShares(h, events.paper[event], -had);
                giveTo(h, event, events.into[event], had);
            }
            for (int t = 0; t < trades.count; t++) {
                if (trades.state[t] == OPEN && trades.paper[t] == events.paper[event]) {
                    turnTrade(event, t);
                }
            }
            events.dropBehind(event);
            events.state[event] = PAID;
        }

        private void turnTrade(int event, int trade) {
            long had = trades.shares[trade];
            trades.paper[trade] = events.into[event];
            trades.shares[trade] = events.sharesFor(event, had);
            trades.amount[trade] -= events.moneyFor(event, had);
            if (trades.shares[trade] == 0) {
                moveMoney(trades.buyer[trade], trades.seller[trade], trades.amount[trade]);
                trades.finish(trade, TURNED, day);
            }
        }

        private void giveTo(int holder, int event, int paper, long n) {
            long more = events.sharesFor(event, n);
            long money = events.moneyFor(event, n);
            addShares(holder, paper, more);
            purses[holder] += money;
            events.issue(event, more, money);
        }

        private void payEvents() {
            for (int e = 0; e < events.count; e++) {
                if (events.state[e] == WRITTEN && events.pay[e] == day) {
                    if (events.kind[e] == RIGHTS) {
                        payRights(e);
                    } else {
                        payOut(e);
                    }
                    events.state[e] = PAID;
                }
            }
        }

        private void payOut(int event) {
            for (int h = 0; h < holders; h++) {
                giveTo(h, event, events.paper[event], notes.written[Notes.at(event, h)]);
            }
            for (int i = 0; i < events.claims[event]; i++) {
                if (!paysClaim(event, i)) {
                    claims.state[Claims.at(event, i)] = CLAIM_WAITS;
                    events.waiting[event]++;
                }
            }
        }

        /** Whether who owes has the SHARES; it gives them, and the MONEY, if so. */
        private boolean paysClaim(int event, int i) {
            int place = Claims.at(event, i);
            int from = claims.from[place];
            int to = claims.to[place];
            int paper = events.paper[event];
            long count = events.sharesFor(event, claims.shares[place]);
            if (sharesOf(from, paper) < count) {
                return false;
            }
            addShares(from, paper, -count);
            addShares(to, paper, count);
            moveMoney(from, to, events.moneyFor(event, claims.shares[place]));
            claims.state[place] = CLAIM_PAID;
            return true;
        }

        private void payWaiting() {
            for (int e = 0; e < events.count; e++) {
                for (int i = 0; i < events.claims[e] && events.waiting[e] > 0; i++) {
                    if (claims.state[Claims.at(e, i)] == CLAIM_WAITS && paysClaim(e, i)) {
                        events.waiting[e]--;
                    }
                }
            }
        }

        private void payRights(int event) {
            for (int h = 0; h < holders; h++) {
                long count = rightsOf(event, h);
                if (count < 0) {
                    owePerRight(event, h, count);
                } else {
                    useRights(event, h, count);
                }
            }
            for (int i = 0; i < events.claims[event]; i++) {
                claims.state[Claims.at(event, i)] = CLAIM_PAID;
            }
        }

        /** R of the document: each CLAIM is cut by itself. */
        private long rightsOf(int event, int holder) {
            long sum = events.sharesFor(event, notes.written[Notes.at(event, holder)]);
            for (int i = 0; i < events.claims[event]; i++) {
                int place = Claims.at(event, i);
                long count = events.sharesFor(event, claims.shares[place]);
                if (claims.to[place] == holder) {
                    sum += count;
                }
                if (claims.from[place] == holder) {
                    sum -= count;
                }
            }
            return sum;
        }

        private void owePerRight(int event, int holder, long count) {
            long money = count * events.cash[event];
            purses[holder] += money;
            notes.lapsed[Notes.at(event, holder)] = count;
            events.issue(event, 0, money);
        }

        private void useRights(int event, int holder, long count) {
            int place = Notes.at(event, holder);
            long taken = Math.min(notes.take[place], count);
            long sold = Math.min(notes.sell[place], count - taken);
            long money = sold * events.cash[event] - taken * events.c[event];
            notes.taken[place] = taken;
            notes.sold[place] = sold;
            notes.lapsed[place] = count - taken - sold;
            addShares(holder, events.paper[event], taken);
            purses[holder] += money;
            events.issue(event, taken, money);
        }

        long entryOf(int event, int holder, int what) {
            int place = Notes.at(event, holder);
            switch (what) {
                case 0:
                    return notes.written[place];
                case 1:
                    return notes.written[place] + claimedTo(event, holder) - claimedFrom(event, holder);
                case 2:
                    return notes.take[place];
                case 3:
                    return notes.sell[place];
                case 4:
                    return notes.taken[place];
                case 5:
                    return notes.sold[place];
                case 6:
                    return notes.lapsed[place];
                default:
                    return NOTHING;
            }
        }

        long claimPart(int event, int i, int what) {
            int place = Claims.at(event, i);
            switch (what) {
                case 0:
                    return claims.from[place];
                case 1:
                    return claims.to[place];
                case 2:
                    return claims.shares[place];
                case 3:
                    return claims.source[place];
                case 4:
                    return claims.state[place];
                case 5:
                    return events.sharesFor(event, claims.shares[place]);
                case 6:
                    return events.moneyFor(event, claims.shares[place]);
                default:
                    return NONE;
            }
        }

        long claimedFrom(int event, int holder) {
            long sum = 0;
            for (int i = 0; i < events.claims[event]; i++) {
                if (claims.from[Claims.at(event, i)] == holder) {
                    sum += claims.shares[Claims.at(event, i)];
                }
            }
            return sum;
        }

        long claimedTo(int event, int holder) {
            long sum = 0;
            for (int i = 0; i < events.claims[event]; i++) {
                if (claims.to[Claims.at(event, i)] == holder) {
                    sum += claims.shares[Claims.at(event, i)];
                }
            }
            return sum;
        }

        /** The first HOLDER FROM whom CLAIMS are for most SHARES. */
        int worstOf(int event) {
            int worst = 0;
            for (int h = 1; h < holders; h++) {
                if (claimedFrom(event, h) > claimedFrom(event, worst)) {
                    worst = h;
                }
            }
            return worst;
        }
    }

    /** The states that undo() goes back to, in a ring, with one row more that is spare. */
    private static final class History {
        final State[] states = new State[MOST_KEPT + 1];
        int next;
        int count;

        History() {
            for (int i = 0; i <= MOST_KEPT; i++) {
                states[i] = new State();
            }
        }

        State spare() {
            return states[next];
        }

        /** What stands in the spare row is the latest; the oldest becomes the spare row if there are too many. */
        void keepSpare() {
            next = next == MOST_KEPT ? 0 : next + 1;
            count = Math.min(count + 1, MOST_KEPT);
        }

        State takeLatest() {
            next = next == 0 ? MOST_KEPT : next - 1;
            count--;
            return states[next];
        }
    }

    /** Who pays whom at the end of the CLAIMS of an EVENT. */
    private static final class Netting {
        final long[] owed = new long[HOLDERS];

        /** Of the i-th payment; how many there are if i is NONE. */
        long answer(State state, int event, int i, int what) {
            for (int h = 0; h < HOLDERS; h++) {
                owed[h] = state.claimedTo(event, h) - state.claimedFrom(event, h);
            }
            int count = 0;
            int to = firstOwed();
            int from = firstOwing();
            while (to != NONE && from != NONE && count < 2 * HOLDERS) {
                long paid = Math.min(owed[to], -owed[from]);
                if (count == i) {
                    return partOf(from, to, paid, what);
                }
                owed[to] -= paid;
                owed[from] += paid;
                count++;
                to = firstOwed();
                from = firstOwing();
            }
            return i == NONE ? count : NONE;
        }

        private static long partOf(int from, int to, long paid, int what) {
            switch (what) {
                case 0:
                    return from;
                case 1:
                    return to;
                case 2:
                    return paid;
                default:
                    return NONE;
            }
        }

        private int firstOwed() {
            for (int h = 0; h < HOLDERS; h++) {
                if (owed[h] > 0) {
                    return h;
                }
            }
            return NONE;
        }

        private int firstOwing() {
            for (int h = 0; h < HOLDERS; h++) {
                if (owed[h] < 0) {
                    return h;
                }
            }
            return NONE;
        }
    }

    /** The SHOWN. */
    private static final class Shown {
        /** Far above six letters, and of five PAPERS each two blanks, nineteen digits, six letters. */
        private static final int MOST_BYTES = 300;
        final byte[] bytes = new byte[MOST_BYTES];
        int length;

        void tell(State state, Book names, int holder) {
            length = 0;
            addName(names.holderNames[holder]);
            addByte(':');
            for (int p = 0; p < state.papers; p++) {
                if (state.sharesOf(holder, p) > 0) {
                    addByte(' ');
                    addNumber(state.sharesOf(holder, p));
                    addByte(' ');
                    addName(names.paperNames[p]);
                    addByte(',');
                }
            }
            addByte(' ');
            addNumber(state.purses[holder]);
            addByte('.');
        }

        private void addByte(int b) {
            if (length < MOST_BYTES) {
                bytes[length] = (byte) b;
                length++;
            }
        }

        private void addName(int code) {
            for (int shift = LETTER_BITS * (MOST_LETTERS - 1); shift >= 0; shift -= LETTER_BITS) {
                int letter = code >>> shift & 31;
                if (letter != 0) {
                    addByte('a' + letter - 1);
                }
            }
        }

        private void addNumber(long n) {
            if (n < 0) {
                addByte('-');
            }
            long rest = Math.abs(n);
            int digits = 1;
            for (long more = rest / 10; more > 0 && digits < MOST_BYTES; more /= 10) {
                digits++;
            }
            if (length + digits > MOST_BYTES) {
                return;
            }
            for (int i = digits - 1; i >= 0; i--) {
                bytes[length + i] = (byte) ('0' + rest % 10);
                rest /= 10;
            }
            length += digits;
        }
    }
}
