/** Counts the answers of one test and tells those that are not as due. */
final class Due {
    static final int NONE = -1, UNKNOWN = -2, OUTSIDE = -3, NOT = -4, FULL = -5;

    private final String test;
    private int asked = 0;
    private int wrong = 0;

    Due(String test) {
        this.test = test;
    }

    void due(String call, long got, long want) {
        asked++;
        if (got != want) {
            wrong++;
            System.out.println(test + ": " + call + " answered " + got + ", due is " + want);
        }
    }

    /** Ends the machine with 1 if an answer was not as due. */
    void end() {
        System.out.println(test + ": " + (asked - wrong) + " of " + asked + " answers are as due");
        if (wrong != 0 || asked == 0) {
            System.exit(1);
        }
    }

    /** Writes a text, eight bytes a call; the last answer. */
    static int write(FleetDelegates x, String text) {
        int answer = 0;
        for (int i = 0; i < text.length(); i += 8) {
            int n = Math.min(8, text.length() - i);
            long bytes = 0;
            for (int k = 0; k < n; k++) {
                bytes |= (long) (text.charAt(i + k) & 255) << (8 * k);
            }
            answer = x.write(bytes, n);
        }
        return answer;
    }

    /** Erases what is written, then tells the fault of a text. */
    static int faultOf(FleetDelegates x, String text) {
        x.erase();
        write(x, text);
        return x.fault();
    }

    static int articles(FleetDelegates x, int book, String text) {
        x.erase();
        write(x, text);
        return x.articles(book);
    }
}
