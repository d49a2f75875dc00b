/** Every answer that asking alone can get, as one text: what a call leaves as it was stays the same here. */
final class Snapshot {
    private Snapshot() {
    }

    /** HOLDERS, PAPERS, TRADES, EVENTS and all that comes of them; not THE TAPE, FAULT, SHOWN, nor what can be undone. */
    static String of(RecordClaims x) {
        StringBuilder all = new StringBuilder();
        for (int what = 0; what <= 7; what++) {
            all.append(x.look(what)).append(' ');
        }
        holders(x, all);
        trades(x, all);
        for (int e = 0; e <= 8; e++) {
            event(x, e, all.append("\nevent ").append(e).append(": "));
        }
        return all.toString();
    }

    /** THE TAPE's length, FAULT, SHOWN, and how much can be undone. */
    static String ofRest(RecordClaims x) {
        StringBuilder all = new StringBuilder();
        all.append(x.look(8)).append(' ').append(x.look(9)).append(' ').append(x.fault(0)).append(' ').append(x.fault(1));
        for (int i = 0; i < 300; i++) {
            all.append(' ').append(x.out(i));
        }
        return all.toString();
    }

    private static void holders(RecordClaims x, StringBuilder all) {
        for (int h = 0; h <= 10; h++) {
            all.append("\nholder ").append(h).append(": ").append(x.purse(h)).append(' ').append(x.purseAhead(h, 0));
            all.append(' ').append(x.purseAhead(h, 7));
            for (int p = 0; p <= 5; p++) {
                all.append(' ').append(x.has(h, p)).append(' ').append(x.wants(h, p));
                all.append(' ').append(x.ahead(h, p, 0)).append(' ').append(x.ahead(h, p, 5));
            }
        }
        for (int p = 0; p <= 5; p++) {
            all.append("\npaper ").append(p).append(": ");
            for (int what = 0; what < 3; what++) {
                all.append(x.carries(p, 1, what)).append(' ').append(x.carries(p, 5, what)).append(' ');
            }
        }
    }

    private static void trades(RecordClaims x, StringBuilder all) {
        for (int t = 0; t <= 60; t++) {
            all.append("\ntrade ").append(t).append(": ").append(x.waits(t));
            for (int what = 0; what <= 8; what++) {
                all.append(' ').append(x.told(t, what));
            }
        }
    }

    private static void event(RecordClaims x, int e, StringBuilder all) {
        for (int what = 0; what <= 7; what++) {
            all.append(x.event(e, what)).append(' ');
        }
        for (int what = 0; what <= 1; what++) {
            all.append(x.issued(e, what)).append(' ').append(x.worst(e, what)).append(' ').append(x.worth(e, 70, what)).append(' ');
        }
        for (int h = 0; h <= 10; h++) {
            for (int what = 0; what <= 6; what++) {
                all.append(x.written(e, h, what)).append(' ');
            }
        }
        for (int i = -1; i < 61; i++) {
            for (int what = 0; what <= 6; what++) {
                all.append(x.claim(e, i, what)).append(' ');
            }
        }
        for (int i = -1; i < 11; i++) {
            all.append(x.net(e, i, 0)).append(' ').append(x.net(e, i, 1)).append(' ').append(x.net(e, i, 2)).append(' ');
        }
    }
}
