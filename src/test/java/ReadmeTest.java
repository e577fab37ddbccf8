import java.io.IOException;
import java.nio.file.Files;
import java.nio.file.Path;
import java.util.ArrayList;
import java.util.List;
import java.util.regex.Matcher;
import java.util.regex.Pattern;

/** README.md's example: each of its calls, in its order, answers the number that stands behind it; its table has all calls. */
public final class ReadmeTest {
    private static final Path README = Path.of("README.md");
    private static final Path DOCUMENT = Path.of("../shared/DOC.md");
    private static final Path THIS = Path.of("src/test/java/ReadmeTest.java");
    private static final Pattern CALL = Pattern.compile("(?m)^(x\\..*?;) *// (-?\\d+).*$|^(tell\\(x, .*?\\);)$");
    private static final Pattern PROMISE = Pattern.compile("(?m)^## Promise (\\d+): (\\w+)$");

    /** The example's calls as README.md has them, in order, with the number that stands behind each ("" behind none). */
    private static final List<String[]> told = new ArrayList<>();
    private static int next = 0;

    public static void main(String[] args) throws IOException {
        String readme = Files.readString(README);
        Matcher m = CALL.matcher(readme);
        while (m.find()) {
            told.add(m.group(3) != null ? new String[] {m.group(3), ""} : new String[] {m.group(1), m.group(2)});
        }
        example();
        Check.due("calls in the example", next, told.size());
        tellIsTheSame(readme);
        table(readme);
        Check.finish();
    }

    private static void same(String call, String answer) {
        String[] line = next < told.size() ? told.get(next) : new String[] {"", ""};
        Check.row("line " + next + " of the example", line[0], call);
        Check.row(call, answer, line[1]);
        next++;
    }

    private static void same(String call, int answer) {
        same(call, Integer.toString(answer));
    }

    private static void example() {
        TwoTierStore x = new TwoTierStore();
        tellToo(x, "room 6; rule rent; item a 2 5 2; item b 6 4 1;");
        same("x.store();", x.store());
        same("x.request(0);", x.request(0));
        same("x.request(0);", x.request(0));
        same("x.request(0);", x.request(0));
        same("x.now(3);", x.now(3));
        same("x.best();", x.best());
        same("x.ratio();", x.ratio());
        tellToo(x, "again 4 [ b; ];");
        same("x.names();", x.names());
        same("x.now(3);", x.now(3));
        same("x.undo();", x.undo());
        same("x.now(3);", x.now(3));
        same("x.rides(2, 6);", x.rides(2, 6));
        same("x.ride(0);", x.ride(0));
        same("x.shift(2, 6);", x.shift(2, 6));
        same("x.gate(0);", x.gate(0));
        tellToo(x, "item a 1 1 1; item a 2 2 2;");
        same("x.store();", x.store());
        same("x.fault();", x.fault());
        same("x.request(7);", x.request(7));
    }

    private static void tellToo(TwoTierStore x, String text) {
        same("tell(x, \"" + text + "\");", "");
        tell(x, text);
        Check.due("bytes of the tape", x.now(7), text.length());
    }

    /** As it stands in README.md. */
    static void tell(TwoTierStore x, String text) {
        int[] n = new int[5];
        for (int from = 0; from < text.length(); from += 20) {
            for (int i = 0; i < 20; i++) {
                int sign = from + i < text.length() ? text.charAt(from + i) : ' ';
                n[i / 4] = n[i / 4] << 8 | sign;
            }
            x.feed(n[0], n[1], n[2], n[3], n[4]);
        }
        x.end(text.length());        // the tape has these bytes alone
    }

    /** README.md's first block of Java stands in this file, but for the margin. */
    private static void tellIsTheSame(String readme) throws IOException {
        String block = readme.replaceFirst("(?s)^.*?```java\n(.*?)```.*$", "$1");
        Check.due("tell() in README.md is the one that was used", unspaced(Files.readString(THIS)).contains(unspaced(block)), true);
    }

    private static String unspaced(String text) {
        return text.replaceAll("\\s+", "");
    }

    private static void table(String readme) throws IOException {
        if (!Files.exists(DOCUMENT)) {
            System.out.println("the document is not here; the table is not looked at");
            return;
        }
        Matcher m = PROMISE.matcher(Files.readString(DOCUMENT));
        int calls = 0;
        while (m.find()) {
            calls++;
            Check.due(m.group(2) + " in the table", readme.contains("`" + m.group(2) + "` " + m.group(1)), true);
        }
        Check.due("promises that are a call's", calls, 37);
    }
}
