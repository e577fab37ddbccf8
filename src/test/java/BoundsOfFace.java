import java.io.IOException;
import java.nio.file.Files;
import java.nio.file.Path;
import java.util.TreeSet;
import java.util.regex.Matcher;
import java.util.regex.Pattern;

/** The section "The public face": each of its lines stands in the class as it is written, and nothing else there is public. */
final class BoundsOfFace {
    private static final Path CLASS = Path.of("src/main/java/TwoTierStore.java");
    private static final Pattern OPEN = Pattern.compile("\\bpublic ([^{;]*[^{; ])");
    private static final String[] FACE = {
        "static final int NONE = -1",
        "TwoTierStore()",
        "int feed(int a, int b, int c, int d, int e)",
        "boolean end(int n)",
        "int store()",
        "int fault()",
        "int now(int what)",
        "int item(int k, int what)",
        "int request(int k)",
        "int names()",
        "int log(int i, int what)",
        "int room(int n)",
        "int rule(int r)",
        "int carry(int k, int up)",
        "int gate(int i)",
        "int book(int k, int kind, int lines)",
        "int booked(int k, int what)",
        "int line(int k, int i, int what)",
        "int best()",
        "int plan(int i, int what)",
        "int potential(int i)",
        "int proof(int i)",
        "int bestWith(int k)",
        "int soon(int k)",
        "int victims(int k)",
        "int upTo(int i)",
        "int curve(int n, int what)",
        "int spent(int k, int what)",
        "int picture()",
        "int byteAt(int i)",
        "int ratio()",
        "int rides(int set, int limit)",
        "int ride(int i)",
        "int shift(int set, int limit)",
        "int drawn(int n, int seed)",
        "int would(int r)",
        "int undo()",
        "boolean image(int k)",
        "boolean restore(int k)",
    };

    private BoundsOfFace() {
    }

    static void all() {
        String source = source();
        TreeSet<String> open = new TreeSet<>();
        Matcher m = OPEN.matcher(source.replaceAll("(?s)/\\*.*?\\*/", "").replaceAll("//[^\n]*", ""));
        while (m.find()) {
            open.add(m.group(1));
        }
        Sentences.test("The public face", "public final class TwoTierStore {");
        Check.due("the class is so", open.remove("final class TwoTierStore"), true);
        for (String line : FACE) {
            Sentences.test("The public face", "public " + line + ";");
            Check.due("the class has it", open.remove(line), true);
        }
        Check.row("what is public beside it", String.join("; ", open), "");
    }

    private static String source() {
        try {
            return Files.readString(CLASS);
        } catch (IOException e) {
            return "";
        }
    }
}
