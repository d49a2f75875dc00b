import java.util.Arrays;

/** What the tests share: answers compared, and texts put on THE TAPE. */
final class Check {
    private static int wrong = 0;
    private static int looked = 0;

    private Check() {
    }

    static void due(String what, long got, long want) {
        looked++;
        if (got != want) {
            wrong++;
            if (wrong <= 50) {
                System.out.println(what + ": answered " + got + ", due is " + want);
            }
        }
    }

    static void due(String what, String got, String want) {
        looked++;
        if (!got.equals(want)) {
            wrong++;
            if (wrong <= 50) {
                int at = Arrays.mismatch(got.toCharArray(), want.toCharArray());
                System.out.println(what + ": answered '" + about(got, at) + "', due is '" + about(want, at) + "'");
            }
        }
    }

    /** A long text is told by the bytes about the first that is another. */
    private static String about(String text, int at) {
        int from = text.length() <= 300 ? 0 : Math.max(0, at - 60);
        return (from > 0 ? ".. " : "") + text.substring(Math.min(from, text.length()), Math.min(text.length(), from + 300));
    }

    static void yes(String what, boolean holds) {
        due(what, holds ? 1 : 0, 1);
    }

    static void no(String what, boolean holds) {
        due(what, holds ? 1 : 0, 0);
    }

    static boolean isWrong() {
        return wrong > 0;
    }

    /** The text stands on THE TAPE then, behind what stood there. */
    static void put(RecordClaims x, String text) {
        int had = x.look(9);
        for (int i = 0; i < text.length(); i += 20) {
            x.feed(four(text, i), four(text, i + 4), four(text, i + 8), four(text, i + 12), four(text, i + 16));
        }
        x.end(had + text.length());
    }

    private static int four(String text, int from) {
        int n = 0;
        for (int i = from; i < from + 4; i++) {
            n = n << 8 | (i < text.length() ? text.charAt(i) & 255 : 0);
        }
        return n;
    }

    static int book(RecordClaims x, String text) {
        put(x, text);
        return x.book();
    }

    static int deeds(RecordClaims x, String text) {
        put(x, text);
        return x.deeds();
    }

    static RecordClaims with(String text) {
        RecordClaims x = new RecordClaims();
        if (book(x, text) < 0) {
            due("book " + text, x.fault(0) * 1000 + x.fault(1), 0);
        }
        return x;
    }

    /** The statement of a HOLDER, as it is SHOWN. */
    static String shown(RecordClaims x, int holder) {
        int length = x.show(holder);
        StringBuilder text = new StringBuilder();
        for (int i = 0; i < length; i++) {
            text.append((char) x.out(i));
        }
        due("out behind the end", x.out(Math.max(length, 0)), -1);
        return text.toString();
    }

    static void end(String name) {
        System.out.println(name + ": " + looked + " answers looked at, " + wrong + " not as due");
        if (wrong > 0 || looked == 0) {
            System.exit(1);
        }
    }
}
