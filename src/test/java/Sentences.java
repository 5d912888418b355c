import java.io.IOException;
import java.nio.file.Files;
import java.nio.file.Path;
import java.util.ArrayList;
import java.util.Arrays;
import java.util.List;

/**
 * The document's own words. A test of a boundary case quotes those that it looks at, which then stand ahead of
 * each wrong answer; in the end no word of the Terms and of the promises may be left that no test has quoted.
 */
final class Sentences {
    static final int TERMS = 0;
    private static final int PROMISES = 30;

    private static final String[] TEXTS = new String[PROMISES + 1];
    private static final boolean[][] QUOTED = new boolean[PROMISES + 1][];
    private static String open = "";
    private static int checkedBefore = 0;
    private static int quotes = 0;

    private Sentences() {
    }

    static void read(Path document) throws IOException {
        Arrays.fill(TEXTS, "");
        int part = -1;
        for (String line : Files.readAllLines(document)) {
            if (line.startsWith("## ")) {
                part = partOf(line);
            } else if (part >= 0 && !line.startsWith("```")) {
                // what a promise's call looks like in Java is the face, which LanguageTest looks at
                TEXTS[part] += " " + line.replaceAll("^`[^`]*`:", "").trim();
            }
        }
        for (int i = 0; i <= PROMISES; i++) {
            TEXTS[i] = plain(TEXTS[i]);
            QUOTED[i] = new boolean[TEXTS[i].length()];
            Checks.yes("the document has " + nameOf(i), !TEXTS[i].isEmpty());
        }
    }

    private static int partOf(String heading) {
        if (heading.equals("## Terms")) {
            return TERMS;
        }
        return heading.startsWith("## Promise ") ? Integer.parseInt(heading.replaceAll("\\D*(\\d+):.*", "$1")) : -1;
    }

    private static String plain(String text) {
        return text.replaceAll("\\s+", " ").trim();
    }

    private static String nameOf(int part) {
        return part == TERMS ? "Terms" : "Promise " + part;
    }

    /** All that is looked at from here on is for these words. */
    static void quote(int part, String words) {
        close();
        open = nameOf(part) + " \"" + words + "\": ";
        checkedBefore = Checks.checkedSoFar();
        quotes++;
        int at = TEXTS[part].indexOf(words);
        Checks.context("");
        if (at < 0) {
            Checks.yes(open + "the document says so", false);
        }
        while (at >= 0) {
            Arrays.fill(QUOTED[part], at, at + words.length(), true);
            at = TEXTS[part].indexOf(words, at + 1);
        }
        Checks.context(open);
    }

    static void quoteTerms(String words) {
        quote(TERMS, words);
    }

    private static void close() {
        if (!open.isEmpty() && Checks.checkedSoFar() == checkedBefore) {
            Checks.yes(open + "something is looked at", false);
        }
    }

    /** No word is left. */
    static void end() {
        close();
        Checks.context("");
        for (int i = 0; i <= PROMISES; i++) {
            Checks.same("words of " + nameOf(i) + " that no test quotes", leftOf(i).toString(), "[]");
        }
        System.out.println(quotes + " quotes of the document");
    }

    private static List<String> leftOf(int part) {
        List<String> left = new ArrayList<>();
        StringBuilder run = new StringBuilder();
        for (int i = 0; i <= QUOTED[part].length; i++) {
            if (i < QUOTED[part].length && !QUOTED[part][i]) {
                run.append(TEXTS[part].charAt(i));
            } else {
                if (run.chars().anyMatch(Character::isLetterOrDigit)) {
                    left.add(run.toString());
                }
                run.setLength(0);
            }
        }
        return left;
    }
}
