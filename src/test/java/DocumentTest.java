import java.io.IOException;
import java.lang.reflect.Method;
import java.nio.file.Files;
import java.nio.file.Path;
import java.util.Arrays;
import java.util.regex.Matcher;
import java.util.regex.Pattern;

/** The tests quote ../shared/DOC.md word for word, and leave out no sentence of it; its path is the argument. */
public final class DocumentTest {
    private static final Class<?>[] TESTS = {
        TermsTest.class, TermsOfTextsTest.class, ActionSentencesTest.class, QuestionSentencesTest.class,
        TextSentencesTest.class, AccountSentencesTest.class, UnchangedTest.class
    };
    private static final int PROMISES = 39;

    /** The words of each section; the one numbered 0 is all that stands before the promises. */
    private static final String[] SECTIONS = new String[PROMISES + 1];
    private static final boolean[][] QUOTED = new boolean[PROMISES + 1][];

    private static void readSections(String document) {
        Arrays.fill(SECTIONS, "");
        for (String section : document.split("(?m)^## ")) {
            int end = section.indexOf('\n');
            String title = section.substring(0, Math.max(end, 0));
            String words = section.substring(end + 1).replaceAll("\\s+", " ").trim();
            Matcher promise = Pattern.compile("Promise (\\d+): .*").matcher(title);
            if (promise.matches()) {
                SECTIONS[Integer.parseInt(promise.group(1))] = withoutWhatTellsNoNumber(words);
            } else if (title.equals("What it is")) {
                SECTIONS[0] = words.substring(words.indexOf("An object is used")) + " " + SECTIONS[0];
            } else if (title.equals("Terms")) {
                SECTIONS[0] += withoutHeadings(words);
            }
        }
        for (int section = 0; section <= PROMISES; section++) {
            QUOTED[section] = new boolean[SECTIONS[section].length()];
        }
    }

    private static String withoutHeadings(String words) {
        String headings = "Members|Pressure|Wagers|Readings|Moving|Texts|Reasons|Changes|Details|Exceptions";
        return words.replaceAll("(^| )(" + headings + ")\\. ", " ");
    }

    /** Leaves out the face of the method, and each line that only names a parameter. */
    private static String withoutWhatTellsNoNumber(String words) {
        return words.replaceFirst("^`[^`]*`: ", "").replaceAll("- `\\w+`: (the|by) [^\\d]*?(?=- `|Returns)", "");
    }

    private static void look(Method test) {
        Sentence sentence = test.getAnnotation(Sentence.class);
        String words = SECTIONS[sentence.promise()];
        int from = words.indexOf(sentence.value());
        Check.due(test.getName() + " quotes promise " + sentence.promise() + ": " + sentence.value(), from >= 0, true);
        while (from >= 0) {
            Arrays.fill(QUOTED[sentence.promise()], from, from + sentence.value().length(), true);
            from = words.indexOf(sentence.value(), from + 1);
        }
    }

    private static String notQuoted(int section) {
        StringBuilder left = new StringBuilder();
        for (int index = 0; index < QUOTED[section].length; index++) {
            if (!QUOTED[section][index]) {
                left.append(SECTIONS[section].charAt(index));
            }
        }
        return left.toString().trim();
    }

    public static void main(String[] args) throws IOException {
        readSections(Files.readString(Path.of(args[1])));
        for (Class<?> tests : TESTS) {
            for (Method test : Sentences.of(tests)) {
                look(test);
            }
        }
        for (int section = 0; section <= PROMISES; section++) {
            Check.due("section " + section + " is there", SECTIONS[section].isEmpty(), false);
            Check.due("no test quotes this of section " + section, notQuoted(section), "");
        }
        Check.end();
    }
}
