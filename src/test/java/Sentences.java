import java.io.IOException;
import java.nio.file.Files;
import java.nio.file.Path;

/**
 * The document as the edge tests quote it. Each quotation has to stand in the document exactly once and
 * has to be followed by answers; in the end nothing of the terms and the promises may be left unquoted.
 */
final class Sentences {
    private static final Path DOCUMENT = Path.of("../shared/DOC.md");

    private final String document;
    private final String toBeQuoted;
    private final boolean[] quoted;
    private String quotation = "(nothing quoted yet)";
    private int askedOfQuotation = 1;
    private int quotations;
    private int asked;
    private int wrong;

    Sentences() throws IOException {
        String whole = Files.readString(DOCUMENT);
        document = plain(whole);
        toBeQuoted = plain(whole.substring(whole.indexOf("## Terms"), whole.indexOf("## Not promised")));
        quoted = new boolean[toBeQuoted.length()];
    }

    /** Without headings, fences and the signatures before a promise's sentences, in one line. */
    private static String plain(String text) {
        return text.replaceAll("(?m)^#.*$", "").replaceAll("(?m)^```.*$", "").replaceAll("(?m)^`[^`\n]*`: ", "")
            .replaceAll("\\s+", " ");
    }

    void quote(String sentence) {
        closeQuotation();
        quotation = sentence;
        askedOfQuotation = 0;
        quotations++;
        int at = document.indexOf(sentence);
        if (at < 0 || document.indexOf(sentence, at + 1) >= 0) {
            fault("does not stand in the document exactly once");
        }
        int from = toBeQuoted.indexOf(sentence);
        for (int i = 0; from >= 0 && i < sentence.length(); i++) {
            quoted[from + i] = true;
        }
    }

    void is(String call, long want, long got) {
        asked++;
        askedOfQuotation++;
        if (want != got) {
            fault(call + " answered " + got + ", due is " + want);
        }
    }

    void fault(String what) {
        wrong++;
        System.out.println("EdgesTest: \"" + quotation + "\": " + what);
    }

    private void closeQuotation() {
        if (askedOfQuotation == 0) {
            fault("has no answer that is asked for");
        }
    }

    private void closeDocument() {
        StringBuilder left = new StringBuilder();
        for (int i = 0; i < quoted.length; i++) {
            left.append(quoted[i] ? "\n" : toBeQuoted.substring(i, i + 1));
        }
        for (String stretch : left.toString().split("\n+")) {
            if (stretch.matches(".*[A-Za-z0-9].*")) {
                quotation = stretch.trim();
                fault("is quoted by no test");
            }
        }
    }

    void finish() {
        closeQuotation();
        closeDocument();
        System.out.println("EdgesTest: " + quotations + " quotations, " + asked + " answers, " + wrong + " faults");
        if (wrong != 0 || asked == 0) {
            System.exit(1);
        }
    }
}
