import java.io.IOException;
import java.nio.file.Files;
import java.nio.file.Path;

/** Counts answers that are not the ones that are due. */
final class Due {
    static final int BEYOND = -1000000001;
    static final int NONE = -1000000002;
    static final int STATE = -1000000003;
    static final int FULL = -1000000004;
    static final int KIND = -1000000005;
    static final int PARTED = -1000000006;
    static final int[] EXTREMES = {Integer.MIN_VALUE, Integer.MIN_VALUE + 1, -1, Integer.MAX_VALUE - 1, Integer.MAX_VALUE};
    private static final Path DOCUMENT = Path.of("../shared/DOC.md");

    private String document = "";
    private String edge = "";
    private int asked = 0;
    private int wrong = 0;

    void is(String call, int got, int want) {
        asked++;
        if (got != want) {
            wrong++;
            System.out.println(edge + call + " answered " + got + ", due is " + want);
        }
    }

    /** What is asked from here on tests these words of the document, which must stand there as they are here. */
    void edge(String promise, String words) {
        edge = promise + " '" + words + "': ";
        if (!documentInOneLine().contains(words)) {
            wrong++;
            System.out.println(edge + "these words are not in the document");
        }
    }

    private String documentInOneLine() {
        if (document.isEmpty()) {
            try {
                document = Files.readString(DOCUMENT).replaceAll("\\s+", " ");
            } catch (IOException e) {
                throw new IllegalStateException("no " + DOCUMENT, e);
            }
        }
        return document;
    }

    /** Bytes of a TEXT come to THE TAPE one at a time; the last answer. */
    static int feedAll(OffForSecond x, String text) {
        int last = x.count(8);
        for (int i = 0; i < text.length(); i++) {
            last = x.feed(text.charAt(i), 1);
        }
        return last;
    }

    static int tellText(OffForSecond x, int use, String text) {
        feedAll(x, text);
        return x.text(use);
    }

    void end(String name) {
        System.out.println(name + ": " + asked + " answers, " + wrong + " not as due");
        if (wrong != 0 || asked == 0) {
            System.exit(1);
        }
    }
}
