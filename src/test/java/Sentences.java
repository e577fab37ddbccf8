import java.io.IOException;
import java.nio.file.Files;
import java.nio.file.Path;
import java.util.LinkedHashMap;
import java.util.Map;
import java.util.regex.Matcher;
import java.util.regex.Pattern;

/**
 * The sentences of the document that the boundary tests name. Each must stand in its section word by word, each test
 * must look at something, and in the end no word of the face, of "Terms" and of the promises may be left unnamed.
 */
final class Sentences {
    private static final Path DOCUMENT = Path.of("../shared/DOC.md");
    private static final Pattern HEAD = Pattern.compile("(?m)^## (.*)$|==== ([23])\\.");
    private static final Map<String, Section> SECTIONS = new LinkedHashMap<>();
    private static boolean isRead = false;
    private static String latest = "";
    private static int checksAhead = 0;
    private static int tests = 0;

    private Sentences() {
    }

    private static final class Section {
        final String text;
        final boolean[] named;

        Section(String text) {
            this.text = text;
            named = new boolean[text.length()];
        }

        boolean name(String sentence) {
            int at = text.indexOf(sentence);
            for (int i = at; at >= 0 && i < at + sentence.length(); i++) {
                named[i] = true;
            }
            return at >= 0;
        }

        String left() {
            StringBuilder left = new StringBuilder();
            for (int i = 0; i < named.length; i++) {
                left.append(named[i] ? ' ' : text.charAt(i));
            }
            return left.toString().replaceAll("[^A-Za-z0-9]+", " ").trim();
        }
    }

    /** Begins the test of one sentence: what is looked at from here on is told under its name. */
    static void test(String section, String sentence) {
        endTest();
        read();
        tests++;
        latest = section + ", \"" + sentence + "\"";
        Check.about(latest);
        checksAhead = Check.checks();
        if (!SECTIONS.isEmpty()) {
            Section found = SECTIONS.get(section);
            if (found == null || !found.name(sentence)) {
                Check.row("the document", "has no such sentence", "has it");
                checksAhead = Check.checks();
            }
        }
    }

    private static void endTest() {
        if (tests > 0 && Check.checks() == checksAhead) {
            Check.row(latest, "nothing was looked at", "something");
        }
    }

    static void finish() {
        endTest();
        Check.about("");
        for (Map.Entry<String, Section> e : SECTIONS.entrySet()) {
            if (mustBeNamed(e.getKey())) {
                Check.row("what no test names of " + e.getKey(), e.getValue().left(), "");
            }
        }
        System.out.println(tests + " tests, of " + SECTIONS.size() + " sections");
    }

    /** What stands around these tells no answer that could be looked at. */
    private static boolean mustBeNamed(String section) {
        return section.startsWith("Terms") || section.startsWith("Promise") || section.equals("The public face");
    }

    /** Without the document the tests look at the answers alone. */
    private static void read() {
        if (isRead) {
            return;
        }
        isRead = true;
        String all;
        try {
            all = Files.readString(DOCUMENT);
        } catch (IOException e) {
            System.out.println("the document is not here; its sentences are not looked up");
            return;
        }
        Matcher m = HEAD.matcher(all);
        String name = "";
        int from = 0;
        while (m.find()) {
            keep(name, all.substring(from, m.start()));
            boolean isPart = m.group(2) != null;
            if (!isPart || name.startsWith("Terms")) {
                name = isPart ? "Terms " + m.group(2) : sectionName(m.group(1));
            }
            from = m.end();
        }
        keep(name, all.substring(from));
    }

    private static String sectionName(String head) {
        return head.equals("Terms") ? "Terms 1" : head.replaceAll(":.*", "");
    }

    /** Lines and their marks do not matter; a promise's face ahead of its words is no sentence. */
    private static void keep(String name, String text) {
        String words = text.replaceAll("```(text|java)?", " ").replaceAll("\\s+", " ").trim();
        SECTIONS.put(name, new Section(name.startsWith("Promise") ? words.replaceFirst("^`[^`]*`: ", "") : words));
    }
}
