import java.io.IOException;
import java.io.UncheckedIOException;
import java.nio.file.Files;
import java.nio.file.Path;

/** The document's sentences that tests quote: each heads the answers that follow it. */
final class Sentences {
    private static final int PROMISES = 37;
    private static final String[] PARTS = parts();
    private static final boolean[] QUOTED = new boolean[PROMISES + 1];
    private static int lookedAtHeading = -1;

    private Sentences() {
    }

    /** Part 0 is what stands ahead of promise 1. */
    private static String[] parts() {
        try {
            String text = Files.readString(Path.of("../shared/DOC.md")).replaceAll("\\s+", " ");
            return text.split("## Promise \\d+: |## Not promised");
        } catch (IOException e) {
            throw new UncheckedIOException(e);
        }
    }

    static void term(String words) {
        promise(0, words);
    }

    static void promise(int number, String words) {
        lastHasAnswers();
        Checks.heading(number == 0 ? "\"" + words + "\"" : "promise " + number + ", \"" + words + "\"");
        Checks.dueTrue("the document's words", PARTS[number].contains(words));
        QUOTED[number] = true;
        lookedAtHeading = Checks.looked();
    }

    private static void lastHasAnswers() {
        Checks.dueTrue("answers of its own", Checks.looked() > lookedAtHeading);
    }

    static void end() {
        lastHasAnswers();
        Checks.heading("");
        Checks.due("parts of the document", PARTS.length, PROMISES + 2);
        for (int number = 0; number <= PROMISES; number++) {
            Checks.dueTrue("a sentence of promise " + number, QUOTED[number]);
        }
    }
}
