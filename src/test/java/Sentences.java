import java.io.IOException;
import java.io.UncheckedIOException;
import java.nio.file.Files;
import java.nio.file.Path;

/** Tests that belong to one sentence of the document each; the sentence must stand there. */
final class Sentences {
    private static final Path DOCUMENT = Path.of("..", "shared", "DOC.md");
    private static final String HEADING = "\n## ";

    private final Checks checks;
    private final String document = read();

    Sentences(Checks checks) {
        this.checks = checks;
    }

    /** The heading is how the heading of the sentence's part of the document begins. */
    void of(String heading, String sentence, Runnable... tests) {
        checks.about(heading + ", \"" + sentence + "\": ");
        checks.so("the document says so", part(heading).contains(sentence));
        int before = checks.done();
        for (Runnable test : tests) {
            run(test);
        }
        checks.so("something is looked at", checks.done() > before);
    }

    /** What one sentence's test throws must not keep the next ones from being run. */
    private void run(Runnable test) {
        try {
            test.run();
        } catch (RuntimeException e) {
            checks.tellWrong("a call threw " + e);
            e.printStackTrace(System.out);
        }
    }

    void finish() {
        checks.finish();
    }

    private String part(String heading) {
        int at = document.indexOf(HEADING + heading);
        if (at < 0) {
            return "";
        }
        int next = document.indexOf(HEADING, at + 1);
        return next < 0 ? document.substring(at) : document.substring(at, next);
    }

    private static String read() {
        try {
            return Files.readString(DOCUMENT);
        } catch (IOException e) {
            throw new UncheckedIOException(e);
        }
    }
}
