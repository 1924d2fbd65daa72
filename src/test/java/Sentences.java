import java.io.IOException;
import java.nio.file.Files;
import java.nio.file.Path;

/**
 * Tests named by the document's own sentences: each must stand there word for word, and together they must leave no
 * word of the terms and promises they are for without a test.
 */
final class Sentences {
    private static final Path DOCUMENT = Path.of("../shared/DOC.md");
    private static final String[] NUMERALS = {"I", "II", "III", "IV", "V"};

    private final Check check;
    private final String document;
    private final boolean[] tested;

    Sentences(Check itsCheck) throws IOException {
        check = itsCheck;
        // Without the document beside it the tests run all the same, their names alone are not compared.
        document = Files.exists(DOCUMENT) ? Files.readString(DOCUMENT) : "";
        tested = new boolean[document.length()];
    }

    /** What is checked from here on is what a sentence of the terms says. */
    void term(String numeral, String sentence) {
        check.part(numeral + " '" + sentence + "'");
        find(termStart(numeral), termStart(behind(numeral)), sentence);
    }

    /** What is checked from here on is what a sentence of a promise says. */
    void promise(int number, String sentence) {
        check.part(number + " '" + sentence + "'");
        find(promiseStart(number), promiseStart(number + 1), sentence);
    }

    void closeTerms() {
        check.part("the terms");
        for (int i = 0; i + 1 < NUMERALS.length; i++) {
            // The numeral itself is no word of it.
            requireAll(termStart(NUMERALS[i]) + NUMERALS[i].length() + 2, termStart(NUMERALS[i + 1]), NUMERALS[i]);
        }
    }

    void closePromises(int last) {
        check.part("the promises");
        for (int number = 1; number <= last; number++) {
            requireAll(promiseStart(number), promiseStart(number + 1), "promise " + number);
        }
    }

    private static String behind(String numeral) {
        for (int i = 0; i + 1 < NUMERALS.length; i++) {
            if (NUMERALS[i].equals(numeral)) {
                return NUMERALS[i + 1];
            }
        }
        return "V";
    }

    private int termStart(String numeral) {
        String mark = numeral.equals("V") ? "\nThe constants:" : "\n" + numeral + ". ";
        return document.indexOf(mark, Math.max(0, document.indexOf("\n## Terms")));
    }

    private int promiseStart(int number) {
        String mark = "\n## Promise " + number + ":";
        int start = document.indexOf(mark);
        if (start < 0) {
            return document.indexOf("\n## Not promised");
        }
        // The heading is the call's name alone.
        return document.indexOf('\n', start + 1);
    }

    private void find(int from, int to, String sentence) {
        if (document.isEmpty()) {
            return;
        }
        boolean found = false;
        for (int at = document.indexOf(sentence, from); at >= 0 && at + sentence.length() <= to; at = document.indexOf(sentence, at + 1)) {
            found = true;
            for (int i = at; i < at + sentence.length(); i++) {
                tested[i] = true;
            }
        }
        check.holds("it stands in the document", found);
    }

    private void requireAll(int from, int to, String where) {
        String text = document.isEmpty() ? "" : document.substring(from, to);
        int heading = text.indexOf("\n## ");
        int end = heading < 0 ? text.length() : heading;
        StringBuilder left = new StringBuilder();
        boolean fence = false;
        for (int i = 0; i < end; i++) {
            if (text.startsWith("```", i)) {
                fence = true;
            } else if (text.charAt(i) == '\n') {
                fence = false;
            }
            if (!fence && !tested[from + i]) {
                left.append(text.charAt(i));
            }
        }
        String words = left.toString().replaceAll("[^A-Za-z0-9]+", " ").trim();
        check.holds("every word of " + where + " is a test's, not: " + words, words.isEmpty());
    }
}
