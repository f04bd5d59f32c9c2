import java.io.IOException;
import java.lang.reflect.Method;
import java.nio.file.Files;
import java.nio.file.Path;
import java.util.ArrayList;
import java.util.List;

/** Each sentence that a test quotes stands in the document, and no sentence of the document is without a test. */
public final class DocumentTest {
    private static final Check CHECK = new Check();
    private static final int PROMISES = 45;
    private static final Class<?>[] TESTS = {TermsOfTextTest.class, TermsOfYearTest.class, TermsOfQuestionsTest.class,
        TermsOfSeenTest.class, Promises01To13Test.class, Promises14To25Test.class, Promises26To35Test.class,
        Promises36To45Test.class};

    public static void main(String[] args) throws IOException {
        String document = Files.readString(Path.of("../shared/DOC.md"));
        List<Method> tests = new ArrayList<>();
        for (Class<?> c : TESTS) {
            tests.addAll(Sentences.testsOf(c));
        }
        for (int promise = 0; promise <= PROMISES; promise++) {
            check(promise, section(document, promise), tests);
        }
        for (Method m : tests) {
            int promise = m.getAnnotation(Says.class).promise();
            CHECK.due(m.getName() + " has a promise", promise >= 0 && promise <= PROMISES, true);
            if (promise > 0) {
                CHECK.due(m.getName() + " is named by it", m.getName().startsWith(String.format("p%02d", promise)), true);
            }
        }
        CHECK.finish("DocumentTest");
    }

    /** What is told of a promise, behind its heading and its method's face; 0: the Terms and what is ahead of them. */
    private static String section(String document, int promise) {
        int from = promise == 0 ? 0 : document.indexOf("\n## Promise " + promise + ":");
        int upTo = document.indexOf("\n## ", document.indexOf(promise == 0 ? "\n## Terms" : "`: ", from) + 1);
        if (promise == 0) {
            return document.substring(0, upTo);
        }
        return document.substring(document.indexOf("`: ", from) + 3, upTo);
    }

    private static void check(int promise, String section, List<Method> tests) {
        boolean[] quoted = new boolean[section.length()];
        if (promise == 0) {
            leaveOut(section, quoted);
        }
        for (Method m : tests) {
            Says says = m.getAnnotation(Says.class);
            if (says.promise() == promise) {
                int at = section.indexOf(says.sentence());
                CHECK.due("'" + says.sentence() + "' stands in promise " + promise, at >= 0, true);
                for (; at >= 0; at = section.indexOf(says.sentence(), at + 1)) {
                    mark(quoted, at, at + says.sentence().length());
                }
            }
        }
        StringBuilder left = new StringBuilder();
        for (int i = 0; i < quoted.length; i++) {
            left.append(quoted[i] ? '\n' : section.charAt(i));
        }
        for (String rest : left.toString().split("\n+")) {
            boolean says = rest.chars().anyMatch(Character::isLetterOrDigit);
            CHECK.due("'" + rest + "' of promise " + promise + " is without a test", says, false);
        }
    }

    private static void mark(boolean[] row, int from, int upTo) {
        for (int i = from; i < upTo; i++) {
            row[i] = true;
        }
    }

    /** Headings, the tale of what it is, the face (FaceTest has it), fences and marks of parts promise nothing. */
    private static void leaveOut(String section, boolean[] quoted) {
        int calls = section.indexOf("An object is used for");
        int terms = section.indexOf("\n## Terms");
        mark(quoted, 0, calls);
        mark(quoted, section.indexOf('\n', calls), terms + 9);
        for (String free : new String[] {"what later calls answer is free.", "```text", "==== 2.", "==== 3.", "==== 4."}) {
            for (int at = section.indexOf(free); at >= 0; at = section.indexOf(free, at + 1)) {
                mark(quoted, at, at + free.length());
            }
        }
    }
}
