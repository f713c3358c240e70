import java.io.IOException;
import java.nio.file.Files;
import java.nio.file.Path;
import java.util.Arrays;

/**
 * A section of the document, each piece of which has a test of its own: a test names the piece
 * that it holds the program to, and at the end no piece may be without a test.
 */
final class Sentences {
    private static final Path DOCUMENT = Path.of("../shared/DOC.md");

    private final String heading;
    private final String text;
    private final boolean[] tested;

    private Sentences(String heading, String text) {
        this.heading = heading;
        this.text = text;
        this.tested = new boolean[text == null ? 0 : text.length()];
    }

    /** The tests run without the document too; it is then not known whether they name all of it. */
    static Sentences of(String heading) throws IOException {
        if (!Files.isReadable(DOCUMENT)) {
            System.out.println("no " + DOCUMENT + " to hold the tests of " + heading + " against");
            return new Sentences(heading, null);
        }
        String document = Files.readString(DOCUMENT);
        String start = "\n## " + heading;
        Checks.same("the document has the section " + heading, true, document.contains(start));
        String rest = document.substring(document.indexOf(start) + start.length());
        String section = rest.substring(rest.indexOf('\n'));
        int next = section.indexOf("\n## ");
        return new Sentences(heading, plain(next < 0 ? section : section.substring(0, next)));
    }

    // What stands in code marks is the face, which another test looks at.
    private static String plain(String section) {
        return section.replace("```text", "").replace("```", "").replaceAll("`[^`]*`:", "")
                .replaceAll("\\s+", " ");
    }

    /** The piece stands in the section once, and the test makes a check at least. */
    void holds(String piece, Checks.Step test) {
        Checks.about(heading + ", \"" + piece + "\": ");
        if (text != null) {
            name(piece);
        }
        int before = Checks.howMany();
        test.run();
        Checks.same("the test checks something", true, Checks.howMany() > before);
        Checks.about("");
    }

    private void name(String piece) {
        int start = text.indexOf(piece);
        boolean once = start >= 0 && text.indexOf(piece, start + 1) < 0;
        Checks.same("the piece stands in the document once", true, once);
        if (once) {
            Arrays.fill(tested, start, start + piece.length(), true);
        }
    }

    void end() {
        StringBuilder rest = new StringBuilder();
        for (int place = 0; place < tested.length; place++) {
            rest.append(tested[place] ? ' ' : text.charAt(place));
        }
        String untested = rest.toString().replaceAll("[\\s,;:.()]+", " ").trim();
        Checks.same(heading + ", what no test names,", "", untested);
    }
}
