import java.io.IOException;
import java.nio.file.Files;
import java.nio.file.Path;

/**
 * The sentences of the document, each with a test of its own. A sentence is told in the document's
 * own words; what no test has told at the end is a fault, so that none is forgotten.
 */
final class Sentences {
    private static final Path DOCUMENT = Path.of("../shared/DOC.md");

    private static String document = null;
    private static boolean[] told = new boolean[0];
    private static int held = 0;
    private static int broken = 0;

    private Sentences() {
    }

    /** Opens the document; without it the sentences are tested all the same. */
    static void open() throws IOException {
        if (!Files.exists(DOCUMENT)) {
            System.out.println("no " + DOCUMENT + " here: that the sentences are its words is not looked at");
            return;
        }
        document = Files.readString(DOCUMENT).replace("```text", "").replace("```java", "").replace("```", "").replaceAll("\\s+", " ");
        told = new boolean[document.length()];
    }

    /** A sentence, or a part of one that names a case, holds if its test finds nothing wrong. */
    static void holds(String sentence, Runnable test) {
        find(sentence);
        int ahead = Check.wrong();
        test.run();
        if (Check.wrong() > ahead) {
            broken++;
            System.out.println("    so this is broken: «" + sentence + "»");
        } else {
            held++;
        }
    }

    /** Words that ask for nothing: headings, and what names no case. */
    static void asksNothing(String sentence) {
        find(sentence);
    }

    private static void find(String sentence) {
        if (document == null) {
            return;
        }
        int at = document.indexOf(sentence);
        if (at < 0 || document.indexOf(sentence, at + 1) >= 0) {
            broken++;
            System.out.println("the document says this never, or twice: «" + sentence + "»");
            return;
        }
        for (int i = at; i < at + sentence.length(); i++) {
            told[i] = true;
        }
    }

    /** What of the document holds a letter or a digit, but no test. */
    private static void untold() {
        int i = 0;
        while (i < told.length) {
            int begun = i;
            while (i < told.length && told[i] == told[begun]) {
                i++;
            }
            String piece = told[begun] ? "" : document.substring(begun, i);
            if (piece.matches(".*[A-Za-z0-9].*")) {
                broken++;
                System.out.println("no test tells: «" + piece.strip() + "»");
            }
        }
    }

    static void end(String name) {
        untold();
        System.out.println(name + ": " + held + " sentences hold, " + broken + " do not");
        if (broken > 0) {
            System.exit(1);
        }
    }
}
