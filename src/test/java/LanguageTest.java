import java.lang.management.ManagementFactory;
import java.lang.reflect.InvocationTargetException;
import java.lang.reflect.Method;
import java.lang.reflect.Modifier;
import java.nio.file.Files;
import java.nio.file.Path;
import java.util.Arrays;
import java.util.HashSet;
import java.util.List;
import java.util.Random;
import java.util.Set;
import java.util.TreeSet;
import java.util.regex.Matcher;
import java.util.regex.Pattern;

/** What LANGUAGE.md asks for, as far as it can be seen from outside: the face, no throw for any arguments, little made. */
public final class LanguageTest {
    private static final String FACE = "best() bestWith(int) book(int,int,int) booked(int,int) byteAt(int) carry(int,int) curve(int,int)"
        + " drawn(int,int) end(int) fault() feed(int,int,int,int,int) gate(int) image(int) item(int,int) line(int,int,int) log(int,int)"
        + " names() now(int) picture() plan(int,int) potential(int) proof(int) ratio() request(int) restore(int) ride(int) rides(int,int)"
        + " room(int) rule(int) shift(int,int) soon(int) spent(int,int) store() undo() upTo(int) victims(int) would(int)";
    private static final List<String> RULED_OUT = List.of("throw", "try", "catch", "finally", "assert", "synchronized", "import", "Float", "Math",
        "->", "::", "double", "instanceof", "protected", "hashCode", "toString", "System.out");

    public static void main(String[] args) throws Exception {
        face();
        insideClasses();
        ruledOut();
        anyArguments();
        littleIsMade();
        Check.finish();
    }

    private static void face() throws Exception {
        Set<String> open = new TreeSet<>();
        Set<String> closed = new HashSet<>();
        for (Method m : TwoTierStore.class.getDeclaredMethods()) {
            if (Modifier.isPublic(m.getModifiers())) {
                String kinds = Arrays.toString(m.getParameterTypes()).replaceAll("[\\[\\] ]", "");
                open.add(m.getName() + "(" + kinds + ")");
                boolean yes = List.of("end", "image", "restore").contains(m.getName());
                Check.row(m.getName() + " answers", m.getReturnType().getName(), yes ? "boolean" : "int");
            } else {
                Check.due(m.getName() + " is private", Modifier.isPrivate(m.getModifiers()), true);
                closed.add(m.getName());
            }
        }
        Check.row("the face", String.join(" ", open), FACE);
        for (Class<?> c : TwoTierStore.class.getDeclaredClasses()) {
            Arrays.stream(c.getDeclaredMethods()).forEach(m -> closed.add(m.getName()));
        }
        for (String m : open) {
            Check.due("a second " + m, closed.contains(m.substring(0, m.indexOf('('))), false);
        }
        Check.due("constructors", TwoTierStore.class.getConstructors().length, 1);
        Check.due("public constants", TwoTierStore.class.getFields().length, 1);
        Check.due("NONE is final", Modifier.isFinal(TwoTierStore.class.getField("NONE").getModifiers()), true);
        Check.due("the class is final", Modifier.isFinal(TwoTierStore.class.getModifiers()), true);
        Arrays.stream(TwoTierStore.class.getDeclaredFields()).filter(f -> !f.getName().equals("NONE"))
            .forEach(f -> Check.due(f.getName() + " is private", Modifier.isPrivate(f.getModifiers()), true));
    }

    private static void insideClasses() {
        Class<?>[] inside = TwoTierStore.class.getDeclaredClasses();
        Check.due("at most some twelve classes", inside.length <= 12, true);
        for (Class<?> c : inside) {
            Check.due(c.getName() + " is static", Modifier.isStatic(c.getModifiers()), true);
            long fields = Arrays.stream(c.getDeclaredFields()).filter(f -> !Modifier.isStatic(f.getModifiers())).count();
            Check.due(c.getName() + " has at most some twenty fields", fields <= 20, true);
        }
    }

    private static void ruledOut() throws Exception {
        String source = Files.readString(Path.of("src/main/java/TwoTierStore.java"));
        String code = source.replaceAll("(?s)/\\*.*?\\*/", "").replaceAll("//[^\n]*", "");
        for (String word : RULED_OUT) {
            String whole = Character.isLetter(word.charAt(0)) ? "\\b" + Pattern.quote(word) + "\\b" : Pattern.quote(word);
            Matcher m = Pattern.compile(whole).matcher(code);
            Check.due("'" + word + "' in the class", m.find(), false);
        }
        Check.due("signs beyond 127", source.chars().anyMatch(c -> c > 127), false);
    }

    private static int wild(Random random) {
        switch (random.nextInt(6)) {
            case 0: return random.nextInt();
            case 1: return random.nextBoolean() ? Integer.MAX_VALUE : Integer.MIN_VALUE;
            case 2: return random.nextInt(300) - 20;
            default: return random.nextInt(12) - 1;
        }
    }

    private static Object call(TwoTierStore x, Method m, Random random) throws Exception {
        Object[] with = new Object[m.getParameterCount()];
        for (int i = 0; i < with.length; i++) {
            with[i] = wild(random);
        }
        try {
            return m.invoke(x, with);
        } catch (InvocationTargetException e) {
            Check.row(m.getName() + Arrays.toString(with), "throws " + e.getCause(), "no throw");
            return null;
        }
    }

    private static Method[] openMethods() {
        return Arrays.stream(TwoTierStore.class.getDeclaredMethods()).filter(m -> Modifier.isPublic(m.getModifiers()))
            .sorted((a, b) -> a.getName().compareTo(b.getName())).toArray(Method[]::new);
    }

    private static void anyArguments() throws Exception {
        Method[] methods = openMethods();
        String[] stores = {"", "item a 1 1 1;", "room 20;rule once;item a 6 60 20;item b 5 9 1;item c 4 4 4;",
            "rule heat;item a 1 1 1;item b 2 2 2;item c 3 3 3;item d 4 4 4;item e 5 5 5;item f 6 6 6;item g 1 9 2;item h 2 8 3;"};
        for (int run = 0; run < 200 && Check.wrong() < 20; run++) {
            Random random = new Random(run);
            TwoTierStore x = new TwoTierStore();
            Check.store(x, stores[run % stores.length]);
            for (int i = 0; i < 500; i++) {
                call(x, methods[random.nextInt(methods.length)], random);
            }
            Check.due("free room is never below 0", x.now(4) >= 0, true);
        }
    }

    private static long made() {
        return ((com.sun.management.ThreadMXBean) ManagementFactory.getThreadMXBean()).getCurrentThreadAllocatedBytes();
    }

    private static void allCalls(TwoTierStore x) {
        for (int i = 0; i < 20; i++) {
            x.names();
            x.drawn(2, i);
            x.request(i % 8);
            x.shift(i % 4, 20);
            x.rides(255 - i, 20);
            x.best();
            x.plan(0, 1);
            x.potential(i);
            x.proof(i);
            x.bestWith(i % 8);
            x.upTo(i);
            x.curve(1 + i, i & 1);
            x.ratio();
            x.picture();
            x.soon(i % 8);
            x.victims(i % 8);
            x.would(i % 3);
            x.image(i & 1);
            x.carry(i % 8, i & 1);
            x.item(i % 8, 5);
            x.undo();
            x.restore(i & 1);
            x.room(5 + i % 9);
            x.rule(i % 3);
        }
    }

    /** All that an object ever makes stays far below a hundredth of the room of one run (7.3 million fields and elements). */
    private static void littleIsMade() {
        allCalls(Check.made("item a 1 1 1;item b 1 1 1;item c 1 1 1;item d 1 1 1;item e 1 1 1;item f 1 1 1;item g 1 1 1;item h 1 1 1;"));
        made();
        long before = made();
        TwoTierStore x = new TwoTierStore();
        allCalls(x);
        long bytes = made() - before;
        Check.due("an object and 480 calls make at most 200000 bytes; they made " + bytes, bytes <= 200000, true);
        before = made();
        allCalls(x);
        Check.due("480 calls more make nothing", made() - before <= 1000, true);
    }
}
