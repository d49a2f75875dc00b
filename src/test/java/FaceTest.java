import java.io.IOException;
import java.lang.reflect.Constructor;
import java.lang.reflect.Field;
import java.lang.reflect.Method;
import java.lang.reflect.Modifier;
import java.nio.file.Files;
import java.nio.file.Path;
import java.util.ArrayList;
import java.util.Arrays;
import java.util.List;
import java.util.TreeSet;

/** The face of the document, the rules of LANGUAGE.md that can be seen, and wild arguments. */
public final class FaceTest {
    private static final String FACE = "feed(int,int,int,int,int)int end(int)boolean book()int deeds()int fault(int)int "
            + "trade(int,int,int,int,int,int)int money(int,int,int,int,int)int gift(int,int,int,int,int,int)int "
            + "rights(int,int,int,int,int,int,int)int turn(int,int,int,int,int)int choose(int,int,int,int)boolean days(int)int "
            + "undo()int has(int,int)long purse(int)long told(int,int)long event(int,int)int written(int,int,int)long "
            + "claim(int,int,int)long issued(int,int)long net(int,int,int)long worth(int,int,int)long ahead(int,int,int)long "
            + "purseAhead(int,int)long waits(int)int wants(int,int)long carries(int,int,int)int worst(int,int)long "
            + "show(int)int out(int)int named(int)int look(int)int";
    private static final int[] WILD = {0, 1, -1, 2, 5, 8, 10, 11, 59, 60, 99, 127, 128, 255, 256, 699, 700, 701, 998, 999, 1000,
        1001, 999999, 1000000, 99999999, 999999999, 1000000000, Integer.MAX_VALUE, Integer.MIN_VALUE,
        Integer.MAX_VALUE - 998, Integer.MIN_VALUE + 1, 0x64617973, 0x3b3b3b3b, 0x31203b0a};

    public static void main(String[] args) throws Exception {
        face();
        insides();
        source();
        wild();
        fullHouse();
        Check.end("FaceTest");
    }

    private static String nameOf(Method m) {
        StringBuilder s = new StringBuilder(m.getName()).append('(');
        for (Class<?> c : m.getParameterTypes()) {
            s.append(s.charAt(s.length() - 1) == '(' ? "" : ",").append(c.getName());
        }
        return s.append(')').append(m.getReturnType().getName()).toString();
    }

    private static void face() throws Exception {
        Class<?> c = RecordClaims.class;
        Check.yes("public and final", Modifier.isPublic(c.getModifiers()) && Modifier.isFinal(c.getModifiers()));
        TreeSet<String> open = new TreeSet<>();
        TreeSet<String> hidden = new TreeSet<>();
        for (Method m : c.getDeclaredMethods()) {
            if (Modifier.isPrivate(m.getModifiers())) {
                hidden.add(m.getName());
            } else {
                open.add(nameOf(m));
                Check.yes(m + " is public, not static", m.getModifiers() == Modifier.PUBLIC);
            }
        }
        Check.due("the face", open.toString(), new TreeSet<>(Arrays.asList(FACE.split(" "))).toString());
        for (String each : FACE.split(" ")) {
            Check.no("hidden method named " + each, hidden.contains(each.substring(0, each.indexOf('('))));
        }
        Constructor<?>[] made = c.getDeclaredConstructors();
        Check.due("constructors", made.length, 1);
        Check.yes("public constructor", Modifier.isPublic(made[0].getModifiers()) && made[0].getParameterCount() == 0);
        for (Field f : c.getDeclaredFields()) {
            Check.yes(f + " is private or NONE", Modifier.isPrivate(f.getModifiers()) || f.getName().equals("NONE"));
        }
        Field none = c.getField("NONE");
        Check.due("NONE", none.getInt(null), -1);
        Check.yes("NONE is a constant int", none.getType() == int.class && Modifier.isStatic(none.getModifiers())
                && Modifier.isFinal(none.getModifiers()));
    }

    private static void insides() {
        Class<?>[] inside = RecordClaims.class.getDeclaredClasses();
        Check.yes("at most twelve classes", inside.length < 12);
        List<Class<?>> all = new ArrayList<>(Arrays.asList(inside));
        all.add(RecordClaims.class);
        for (Class<?> c : all) {
            int fields = 0;
            for (Field f : c.getDeclaredFields()) {
                boolean isStatic = Modifier.isStatic(f.getModifiers());
                fields += isStatic ? 0 : 1;
                Check.no(f + " is static and not final", isStatic && !Modifier.isFinal(f.getModifiers()));
            }
            Check.yes(c + " has some twenty fields (" + fields + ")", fields <= 20);
            for (Method m : c.getDeclaredMethods()) {
                Check.yes(m + " takes seven at most", m.getParameterCount() <= 7);
                boolean isOfFace = c != RecordClaims.class && (" " + FACE).contains(" " + m.getName() + "(");
                Check.no(m + " bears a name of the face", isOfFace);
            }
            if (c != RecordClaims.class) {
                Check.yes(c + " is static", Modifier.isStatic(c.getModifiers()));
                Check.no(c + " is public", Modifier.isPublic(c.getModifiers()) || Modifier.isProtected(c.getModifiers()));
            }
        }
    }

    private static void source() throws IOException {
        String text = Files.readString(Path.of("src/main/java/RecordClaims.java"));
        String code = text.replaceAll("(?s)/\\*.*?\\*/", "").replaceAll("//[^\n]*", "").replaceAll("\"[^\"\n]*\"", "\"\"");
        for (String word : new String[] {"throw", "throws", "try", "catch", "finally", "synchronized", "assert", "import",
            "package", "instanceof", "interface", "var", "Object", "Exception", "native", "volatile", "float", "double"}) {
            Check.no("the word " + word, code.matches("(?s).*\\b" + word + "\\b.*"));
        }
        for (String sign : new String[] {"->", "::", "Exact(", "@", "System.out", "static {", "\"\" +", "+ \"\""}) {
            Check.no("the sign " + sign, code.contains(sign));
        }
        int lines = 0;
        for (String line : code.split("\n")) {
            lines = line.matches(" {4}( {4})?\\S.*\\) \\{") ? 0 : lines + 1;
            if (line.matches(" {4}( {4})?\\}")) {
                Check.yes("a method is short (" + lines + ")", lines <= 60);
            }
        }
    }

    /** Nothing throws: every call with every wild number at each place, in states that grow. */
    private static void wild() throws Exception {
        RecordClaims x = Check.with("holder a;holder b;paper p;paper q;has a p 50;has b q 9;");
        List<Method> all = new ArrayList<>();
        for (Method m : RecordClaims.class.getDeclaredMethods()) {
            if (Modifier.isPublic(m.getModifiers())) {
                all.add(m);
            }
        }
        all.sort((m, n) -> m.getName().compareTo(n.getName()));
        long seed = 12345;
        for (int i = 0; i < 200000; i++) {
            seed = seed * 6364136223846793005L + 1442695040888963407L;
            Method m = all.get((int) ((seed >>> 40) % all.size()));
            Object[] args = new Object[m.getParameterCount()];
            for (int k = 0; k < args.length; k++) {
                seed = seed * 6364136223846793005L + 1442695040888963407L;
                boolean isSmall = (seed >>> 60) < 9;
                args[k] = isSmall ? (int) ((seed >>> 40) % 12) : WILD[(int) ((seed >>> 40) % WILD.length)];
            }
            m.invoke(x, args);
            if (i % 500 == 0) {
                x.end(0);
                Check.book(x, "holder a;holder b;paper p;paper q;has a p 50;has b q 9;");
            }
        }
        x.end(0);
        Check.due("it answers still", Check.book(x, "holder a;"), 1);
    }

    /** The most of all at once: sixty TRADES, eight EVENTS that grow SHARES as far as they can. */
    private static void fullHouse() {
        StringBuilder text = new StringBuilder();
        for (int i = 0; i < 10; i++) {
            text.append("holder a").append((char) ('a' + i)).append(';');
        }
        text.append("paper p;paper q;");
        for (int i = 0; i < 10; i++) {
            text.append("has a").append((char) ('a' + i)).append(" p 100000;");
        }
        RecordClaims x = Check.with(text.toString());
        for (int i = 0; i < 60; i++) {
            Check.due("trade", x.trade(i % 10, (i + 1) % 10, 0, 100000, 99999999, 9), i);
        }
        for (int e = 0; e < 8; e++) {
            Check.due("gift", x.gift(0, 91, 999, e + 1, e + 1, e + 1), e);
        }
        x.days(8);
        Check.due("claims", x.event(7, 6), 60);
        Check.due("nine more each time", x.has(0, 0), 10000000000000L);
        x.days(1);
        Check.due("all SETTLED", x.look(5), 0);
        x = Check.with(text.toString());
        for (int e = 0; e < 8; e++) {
            Check.due("turn", x.turn(e % 2, 1 - e % 2, 91, 999999, e + 1), e);
            x.days(1);
        }
        Check.due("ninefold", x.has(9, 0), 4304672100000L);
        long money = 0;
        for (long n = 100000, e = 0; e < 8; e++, n *= 9) {
            money += n * 999;
        }
        Check.due("money", x.purse(9), money);
        Check.due("shown", Check.shown(x, 9), "aj: 4304672100000 p, " + money + ".");
    }
}
