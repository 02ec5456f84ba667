import java.io.IOException;
import java.io.UncheckedIOException;
import java.nio.charset.StandardCharsets;
import java.nio.file.Files;
import java.nio.file.Path;

/** Counts the answers of one test and tells those that are not as due. */
final class Due {
    static final int NONE = -1, UNKNOWN = -2, OUTSIDE = -3, NOT = -4, FULL = -5;

    private final String test;
    private String sentence = "";
    private String document = "";
    private int asked = 0;
    private int wrong = 0;

    Due(String test) {
        this.test = test;
    }

    /** What follows tests this sentence; it must stand so in the document, so that no test is of a sentence that is not there. */
    void says(String said) {
        if (document.isEmpty()) {
            document = inOneLine(readDocument());
        }
        sentence = "";
        due("the document says '" + said + "'", document.contains(inOneLine(said)) ? 1 : 0, 1);
        sentence = "'" + said + "' ";
    }

    void due(String call, long got, long want) {
        asked++;
        if (got != want) {
            wrong++;
            System.out.println(test + ": " + sentence + call + " answered " + got + ", due is " + want);
        }
    }

    private static String readDocument() {
        try {
            return Files.readString(Path.of("../shared/DOC.md"), StandardCharsets.UTF_8);
        } catch (IOException e) {
            throw new UncheckedIOException(e);
        }
    }

    private static String inOneLine(String s) {
        return s.replaceAll("\\s+", " ");
    }

    /** The first numbers beyond two bounds, and the last ones that there are. */
    static int[] beyond(int least, int most) {
        return new int[] {least - 1, most + 1, Integer.MIN_VALUE, Integer.MAX_VALUE};
    }

    /** Ends the machine with 1 if an answer was not as due. */
    void end() {
        System.out.println(test + ": " + (asked - wrong) + " of " + asked + " answers are as due");
        if (wrong != 0 || asked == 0) {
            System.exit(1);
        }
    }

    /** Writes a text, eight bytes a call; the last answer. */
    static int write(FleetDelegates x, String text) {
        int answer = 0;
        for (int i = 0; i < text.length(); i += 8) {
            int n = Math.min(8, text.length() - i);
            long bytes = 0;
            for (int k = 0; k < n; k++) {
                bytes |= (long) (text.charAt(i + k) & 255) << (8 * k);
            }
            answer = x.write(bytes, n);
        }
        return answer;
    }

    /** Erases what is written, then tells the fault of a text. */
    static int faultOf(FleetDelegates x, String text) {
        x.erase();
        write(x, text);
        return x.fault();
    }

    static int articles(FleetDelegates x, int book, String text) {
        x.erase();
        write(x, text);
        return x.articles(book);
    }
}
