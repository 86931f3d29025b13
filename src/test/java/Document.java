import java.io.IOException;
import java.io.UncheckedIOException;
import java.nio.file.Files;
import java.nio.file.Path;
import java.util.regex.Matcher;
import java.util.regex.Pattern;

/** ../shared/DOC.md: a sentence beside a test has to stand there, and none may be left without a test. */
final class Document {
    /** Stands for all that the document says ahead of its promises. */
    static final int TERMS = 0;
    static final int PROMISES = 33;

    private static final String TEXT = read();
    private static final boolean[] TOLD = new boolean[TEXT.length()];

    private Document() {
    }

    private static String read() {
        try {
            return Files.readString(Path.of("..", "shared", "DOC.md")).replaceAll("```(text)?", "").replaceAll("\\s+", " ");
        } catch (IOException e) {
            throw new UncheckedIOException(e);
        }
    }

    /** Whether the sentence stands in the section; if so, it is kept in mind as told. */
    static boolean tells(int section, String sentence) {
        Matcher found = Pattern.compile("(?<![\\w-])" + Pattern.quote(sentence) + "(?!\\w)").matcher(TEXT);
        found.region(begin(section), end(section));
        found.useTransparentBounds(true);
        boolean stands = false;
        while (found.find()) {
            stands = true;
            for (int i = found.start(); i < found.end(); i++) {
                TOLD[i] = true;
            }
        }
        return stands;
    }

    /** What of the section no test has told: its words, with a gap where others were told. */
    static String leftOut(int section) {
        StringBuilder left = new StringBuilder();
        for (int i = section == TERMS ? TEXT.indexOf("==== 1") : begin(section); i < end(section); i++) {
            left.append(TOLD[i] ? ' ' : TEXT.charAt(i));
        }
        return left.toString().replaceAll("==== [123]", "").replaceAll("[^\\w]+", " ").trim();
    }

    private static int begin(int section) {
        return section == TERMS ? 0 : TEXT.indexOf("`: ", heading(section)) + 3;
    }

    private static int end(int section) {
        if (section == TERMS) {
            return TEXT.indexOf("Ahead of the calls `wall`");
        }
        return section == PROMISES ? TEXT.indexOf("## Not promised") : heading(section + 1);
    }

    private static int heading(int section) {
        return TEXT.indexOf("## Promise " + section + ":");
    }
}
