import java.io.IOException;
import java.nio.file.Files;
import java.nio.file.Path;

/** A part of the document, sentence by sentence: each stands in it word by word, and none is left out. */
final class Part {
    private final String heading;
    private String rest;

    Part(String heading) throws IOException {
        String document = Files.readString(Path.of("../shared/DOC.md"));
        int from = document.indexOf("\n" + heading + "\n");
        int end = from < 0 ? -1 : document.indexOf("\n#", from + heading.length());
        this.heading = heading;
        rest = from < 0 ? "" : document.substring(from + heading.length() + 1, end < 0 ? document.length() : end);
        Checks.about(heading);
        if (from < 0) {
            Checks.wrong("is not in the document");
        }
    }

    /** A sentence that names a boundary case, or what a call answers or changes, with a test of its own. */
    Part holds(String sentence, Runnable test) {
        take(sentence);
        test.run();
        return this;
    }

    /** Words that promise nothing that could be tested by themselves. */
    Part says(String words) {
        take(words);
        return this;
    }

    void end() {
        Checks.about(heading);
        if (rest.chars().anyMatch(Character::isLetterOrDigit)) {
            Checks.wrong("what has no test: " + rest.trim());
        }
    }

    private void take(String sentence) {
        Checks.about(heading + ": " + sentence);
        int at = rest.indexOf(sentence);
        if (at < 0) {
            Checks.wrong("is not in the document");
        } else {
            rest = rest.substring(0, at) + rest.substring(at + sentence.length());
        }
    }
}
