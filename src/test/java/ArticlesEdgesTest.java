/** Terms 2 and promises 12 to 21: each sentence that names a boundary, and behind it the tests of that sentence. */
public final class ArticlesEdgesTest {
    private static final Due DUE = new Due("ArticlesEdgesTest");
    private static final int NONE = Due.NONE, UNKNOWN = Due.UNKNOWN, OUTSIDE = Due.OUTSIDE, NOT = Due.NOT, FULL = Due.FULL;
    private static final long BLANKS = 0x2020202020202020L;

    private static void due(String call, long got, long want) {
        DUE.due(call, got, want);
    }

    private static FleetDelegates fleet(int... men) {
        FleetDelegates x = new FleetDelegates();
        for (int m : men) {
            x.ship(0, m, 9000, 9000, 50, 100);
        }
        return x;
    }

    private static void fault(FleetDelegates x, String text, int place) {
        due("the fault of '" + text + "'", Due.faultOf(x, text), place);
    }

    private static void faultless(FleetDelegates x, String text) {
        fault(x, text, NONE);
    }

    private static void articles(FleetDelegates x, int book, String text, int count) {
        due("articles of '" + text + "'", Due.articles(x, book, text), count);
    }

    /** A text of so many bytes: blanks, and the last word behind them. */
    private static void fill(FleetDelegates x, int bytes, String last) {
        x.erase();
        int blanks = bytes - last.length();
        for (; blanks >= 8; blanks -= 8) {
            x.write(BLANKS, 8);
        }
        if (blanks > 0) {
            x.write(BLANKS, blanks);
        }
        Due.write(x, last);
    }

    private static void twoHundredBytes() {
        DUE.says("THE TEXT is a row of bytes, 200 at most:");
        for (int n = 1; n <= 8; n++) {
            FleetDelegates x = new FleetDelegates();
            fill(x, 200 - n, "");
            due("up to 200 by " + n, x.write(BLANKS, n), 200);
            due("one more than full", x.write(BLANKS, 1), FULL);
            due("eight more than full", x.write(BLANKS, 8), FULL);
            due("so many", x.count(8), 200);
            FleetDelegates y = new FleetDelegates();
            fill(y, 201 - n, "");
            due("up to 201 by " + n, y.write(BLANKS, n), FULL);
            due("refused, as many as before", y.count(8), 201 - n);
            due("room again", y.erase() + y.write(BLANKS, n), 201);
        }
        FleetDelegates x = new FleetDelegates();
        fill(x, 200, "carry 9");
        due("a full one is read", x.fault(), NONE);
        due("its article", x.articles(0) * 1000 + x.count(8), 1000);
        due("carry", x.vote(0, 1), 9);
        fill(x, 200, "carry;");
        due("its last byte is the fault", x.fault(), 199);
        fill(x, 200, "carry");
        due("its end is the fault", x.fault(), 200);
        fill(x, 200, "");
        due("blanks alone", x.fault(), 200);
    }

    private static String carries(int n) {
        StringBuilder s = new StringBuilder("carry 1");
        for (int i = 2; i <= n; i++) {
            s.append(";carry ").append(i);
        }
        return s.toString();
    }

    private static void tenArticles() {
        DUE.says("ARTICLES with ; (59) between, 10 at most;");
        FleetDelegates x = fleet(100);
        fault(x, "", 0);
        for (int n = 1; n <= 10; n++) {
            faultless(x, carries(n));
            due(n + " articles", x.articles(0), n);
            due("the last one of " + n, x.vote(0, 1), n);
        }
        String ten = carries(10);
        fault(x, ten + ";carry 11", ten.length());
        due("eleven are none", x.articles(0), NOT);
        due("the old ones stay", x.vote(0, 1), 10);
        fault(x, ten + ";", ten.length());
        fault(x, ten + " ;", ten.length() + 1);
        fault(x, ten + " carry 11", ten.length() + 1);
        String nine = carries(9);
        fault(x, nine + ";", nine.length() + 1);
        fault(x, nine + ";;", nine.length() + 1);
        fault(x, ";" + nine, 0);
        fault(x, "carry 1;;carry 2", 8);
        fault(x, "carry 1:carry 2", 7);
        fault(x, "carry 1<carry 2", 7);
    }

    private static void shipNumbers() {
        DUE.says("S is a SHIP's number or all;");
        FleetDelegates x = new FleetDelegates();
        String[] before = {"owe ", "voice ", "pardon "};
        String[] behind = {" 1", " 1", " but 1"};
        for (int ships = 0; ships <= 6; ships++) {
            for (int i = 0; i < 3; i++) {
                if (ships > 0) {
                    faultless(x, before[i] + "0" + behind[i]);
                    faultless(x, before[i] + (ships - 1) + behind[i]);
                }
                fault(x, before[i] + ships + behind[i], before[i].length());
                faultless(x, before[i] + "all" + behind[i]);
            }
            x.ship(0, 1, 0, 0, 0, 0);
        }
        fault(x, "owe 9999 1", 4);
        fault(x, "owe -1 1", 4);
        faultless(x, "owe 0005 1");
    }

    private static void numbers() {
        DUE.says("N 0 .. 99; K 0 .. 5; H 0 .. 3000, the second one not below the first.");
        FleetDelegates x = fleet(100);
        String[] ofN = {"owe all ", "voice 0 ", "carry "};
        for (String s : ofN) {
            faultless(x, s + "0");
            faultless(x, s + "99");
            fault(x, s + "100", s.length());
            fault(x, s + "9999", s.length());
            fault(x, s + "-1", s.length());
        }
        String k = "pardon all but ";
        faultless(x, k + "0");
        faultless(x, k + "5");
        fault(x, k + "6", k.length());
        fault(x, k + "10", k.length());
        fault(x, k + "-1", k.length());
        String from = "pardon all from ";
        faultless(x, from + "0");
        faultless(x, from + "3000");
        fault(x, from + "3001", from.length());
        fault(x, from + "9999", from.length());
        fault(x, from + "-1", from.length());
    }

    private static void secondHour() {
        DUE.says("H 0 .. 3000, the second one not below the first.");
        FleetDelegates x = fleet(100);
        int[] firsts = {0, 1, 7, 999, 1000, 2999, 3000};
        for (int first : firsts) {
            String s = "carry 5 from " + first + " to ";
            faultless(x, s + first);
            faultless(x, s + "3000");
            fault(x, s + "3001", s.length());
            if (first > 0) {
                fault(x, s + (first - 1), s.length());
                fault(x, s + "0", s.length());
            }
        }
        faultless(x, "carry 5 from 0 to 1");
        faultless(x, "carry 5 from 9 to 10");
    }

    private static void signs() {
        DUE.says("(As written here, without points; small letters a .. z, numbers of 1 to 4 digits, blanks (32) between.)");
        FleetDelegates x = fleet(100);
        faultless(x, "carry 5");
        faultless(x, "carry 05");
        faultless(x, "carry 005");
        faultless(x, "carry 0005");
        fault(x, "carry 00005", 6);
        fault(x, "carry 0000000000000000000000000000005", 6);
        fault(x, "carry 4294967296", 6);
        fault(x, "carry 5.", 7);
        fault(x, "Carry 5", 0);
        fault(x, "CARRY 5", 0);
        fault(x, "carrY 5", 0);
        faultless(x, "   carry   5   ");
        faultless(x, "carry5");
        int[] bytes = {0, 9, 10, 13, 31, 33, 44, 46, 47, 58, 60, 64, 65, 90, 91, 96, 123, 126, 127, 128, 160, 177, 225, 255};
        for (int b : bytes) {
            fault(x, "carry 5" + (char) b, 7);
            fault(x, "carry " + (char) b + "5", 6);
        }
    }

    private static boolean letter(int b) {
        return b >= 'a' && b <= 'z';
    }

    private static void bytes() {
        DUE.says("TOKEN (a row of letters, a row of digits, any other byte)");
        for (int b = 0; b < 256; b++) {
            FleetDelegates x = new FleetDelegates();
            boolean digit = b >= '0' && b <= '9';
            fault(x, "carry " + (char) b, digit ? NONE : b == ' ' ? 7 : 6);
            fault(x, "carry 5" + (char) b, digit || b == ' ' ? NONE : b == ';' ? 8 : 7);
            fault(x, (char) b + "carry 5", b == ' ' ? NONE : 0);
            fault(x, "carry" + (char) b, letter(b) ? 0 : digit ? NONE : b == ' ' ? 6 : 5);
            fault(x, "carry" + (char) b + "5", letter(b) ? 0 : digit || b == ' ' ? NONE : 5);
            fault(x, "carry 5from" + (char) b + "8", letter(b) ? 7 : digit || b == ' ' ? NONE : 11);
        }
    }

    private static void rows() {
        DUE.says("A FAULT is at the first TOKEN (a row of letters, a row of digits, any other byte) that cannot stand there");
        FleetDelegates x = fleet(100, 100);
        fault(x, "carryy 5", 0);
        fault(x, "carr 5", 0);
        fault(x, "c", 0);
        fault(x, "owe alll 5", 4);
        fault(x, "owe a 5", 4);
        fault(x, "owe 1 5 fromm 5", 8);
        fault(x, "owe 1 5 from 5 too 6", 15);
        fault(x, "pardon 0 butt 5", 9);
        fault(x, "pardon 0 but5 5", 14);
        fault(x, "owe 1 5;owe 1 5;own 1 5", 16);
        fault(x, "owe 1 5 5", 8);
        fault(x, "owe 1 5..", 7);
        fault(x, "owe 1 5 ..", 8);
        fault(x, "owe 7 500 from 9999", 4);
        fault(x, "voice 0 500 from 9999", 8);
    }

    /** What may stand behind a text that is an article, and what may not. */
    private static void behind(String text, String... may) {
        FleetDelegates x = fleet(100);
        String[] words = {"owe", "voice", "carry", "pardon", "but", "from", "to", "all", "a", "0", "5", "3000", ".", "'", "-"};
        faultless(x, text);
        faultless(x, text + "; carry 5");
        for (String word : words) {
            boolean is = false;
            for (String m : may) {
                is |= m.equals(word);
            }
            String longer = text + " " + word;
            fault(x, longer, is ? longer.length() : text.length() + 1);
        }
    }

    private static void forms() {
        DUE.says("each is one of: owe S N. voice S N. carry N. pardon S. pardon S but K; behind it, if it is told, from H, and then, if told, to H.");
        String[] forms = {"owe 0 5", "owe all 5", "voice 0 5", "voice all 5", "carry 5", "pardon 0 but 5", "pardon all but 5"};
        for (String form : forms) {
            behind(form, "from");
            behind(form + " from 5", "to");
            behind(form + " from 5 to 5");
        }
        behind("pardon 0", "but", "from");
        behind("pardon all", "but", "from");
        behind("pardon 0 from 5", "to");
        behind("pardon all from 0 to 3000");
    }

    private static void firstWords() {
        DUE.says("each is one of: owe S N. voice S N. carry N. pardon S. pardon S but K;");
        FleetDelegates x = fleet(100);
        String[] none = {"all", "but", "from", "to", "a", "0", "5", "3000", ";", ".", "owed 0 5", "voices 0 5", "pardo 0", "own 0 5"};
        for (String word : none) {
            fault(x, word, 0);
            fault(x, "carry 5; " + word, 9);
        }
        fault(x, "carry all", 6);
        fault(x, "carry from 5", 6);
        fault(x, "carry ;", 6);
        fault(x, "owe 5 5", 4);
        fault(x, "owe but 5", 4);
        fault(x, "owe ;", 4);
        fault(x, "owe 0 all", 6);
        fault(x, "owe all all", 8);
        fault(x, "owe 0 ;", 6);
        fault(x, "voice from 5", 6);
        fault(x, "voice 0 but 5", 8);
        fault(x, "pardon but 5", 7);
        fault(x, "pardon ;", 7);
        fault(x, "pardon 0 but all", 13);
        fault(x, "pardon 0 but ;", 13);
        fault(x, "pardon 0 but from 5", 13);
        fault(x, "carry 5 from all", 13);
        fault(x, "carry 5 from ;", 13);
        fault(x, "carry 5 from to 5", 13);
        fault(x, "carry 5 from 5 to all", 18);
        fault(x, "carry 5 from 5 to ;", 18);
    }

    private static void endTooSoon() {
        DUE.says("a number out of its bounds also, or at the end, if it comes too soon.");
        FleetDelegates x = fleet(100);
        String[] texts = {"", " ", "owe", "owe 0", "owe all ", "voice", "voice 0", "voice all", "carry", "carry ", "pardon",
            "pardon 0 but", "pardon all but  ", "carry 5 from", "carry 5 from ", "carry 5 from 5 to", "carry 5 from 5 to   ",
            "carry 5;", "carry 5; ", "carry 5 ;   "};
        for (String s : texts) {
            fault(x, s, s.length());
        }
        faultless(x, "carry 5");
        faultless(x, "carry 5 ");
        faultless(x, "pardon 0");
        faultless(x, "carry 5 from 5");
        faultless(x, "carry 5 from 5 to 6");
    }

    private static void books() {
        DUE.says("Without FAULT it may be THE ARTICLES of a BOOK (0 the fleet's, 1 the board's; both empty at first).");
        FleetDelegates x = fleet(100);
        due("fleet's, empty", x.owed(0, 0, 0), 0);
        due("board's, empty", x.owed(1, 0, 0), 0);
        for (int book : Due.beyond(0, 1)) {
            articles(x, book, "owe 0 1", UNKNOWN);
            due("the text stays", x.count(8), 7);
        }
        articles(x, 0, "owe 0 1", 1);
        due("fleet's", x.owed(0, 0, 0), 100);
        due("board's, still empty", x.owed(1, 0, 0), 0);
        articles(x, 1, "owe 0 2", 1);
        due("fleet's, as before", x.owed(0, 0, 0), 100);
        due("board's", x.owed(1, 0, 0), 200);
        articles(x, 0, "carry 0", 1);
        due("fleet's, another one", x.owed(0, 0, 0), 0);
        due("board's, as before", x.owed(1, 0, 0), 200);
    }

    /** Whether one article with those hours is in force, by owed, voices, named and word alike. */
    private static boolean inForce(FleetDelegates x, int hour) {
        boolean owed = x.owed(1, 0, hour) == 100;
        due("voices in " + hour, x.voices(1, 0, hour), owed ? 7 : 1);
        due("named in " + hour, x.named(1, hour), owed ? 0 : 1);
        due("word in " + hour, x.word(1, 0, hour), owed ? NOT : NONE);
        return owed;
    }

    private static void force(String hours, int first, int last) {
        FleetDelegates x = fleet(100);
        x.fellow(0, 0);
        articles(x, 1, "owe 0 1" + hours + ";voice 0 7" + hours + ";pardon 0" + hours, 3);
        int[] at = {0, first - 1, first, first + 1, last - 1, last, last + 1, 3000};
        for (int hour : at) {
            if (hour >= 0 && hour <= 3000) {
                due("in force '" + hours + "' in " + hour, inForce(x, hour) ? 1 : 0, hour >= first && hour <= last ? 1 : 0);
            }
        }
    }

    private static void forces() {
        DUE.says("An ARTICLE is IN FORCE in HOURS from .. to (without: in all; without \"to\": from there on).");
        force("", 0, 3000);
        force(" from 0", 0, 3000);
        force(" from 1", 1, 3000);
        force(" from 3000", 3000, 3000);
        force(" from 0 to 0", 0, 0);
        force(" from 0 to 3000", 0, 3000);
        force(" from 0 to 2999", 0, 2999);
        force(" from 5 to 5", 5, 5);
        force(" from 5 to 6", 5, 6);
        force(" from 5 to 9", 5, 9);
        force(" from 3000 to 3000", 3000, 3000);
        force(" from 2999 to 3000", 2999, 3000);
    }

    /** CARRY is of THE HOUR: one article, hour by hour. */
    private static void carryInForce() {
        DUE.says("CARRY: N of the last carry IN FORCE; more than half of all VOICES of SHIPS that did not YIELD without one.");
        FleetDelegates x = fleet(100);
        articles(x, 0, "carry 9 from 2 to 4;carry 8 from 4 to 5", 2);
        int[] due = {1, 1, 9, 9, 8, 8, 1, 1};
        for (int hour = 0; hour < due.length; hour++) {
            due("carry in hour " + hour, x.vote(0, 1), due[hour]);
            x.hours(1);
        }
        articles(x, 0, "carry 0", 1);
        due("carry 0", x.vote(0, 1), 0);
        articles(x, 0, "carry 99", 1);
        due("carry 99", x.vote(0, 1), 99);
        articles(x, 1, "carry 3", 1);
        due("the board's is none of it", x.vote(0, 1), 99);
    }

    private static void halves() {
        DUE.says("more than half of all VOICES of SHIPS that did not YIELD without one.");
        FleetDelegates none = new FleetDelegates();
        due("of no voices", none.vote(0, 1), 1);
        for (int n = 0; n <= 99; n++) {
            FleetDelegates x = fleet(100);
            articles(x, 0, "voice 0 " + n, 1);
            due("of " + n, x.vote(0, 1), n / 2 + 1);
        }
        FleetDelegates y = fleet(100, 100, 100, 100, 100, 100);
        due("of six", y.vote(0, 1), 4);
        articles(y, 0, "voice all 99", 1);
        due("of 594", y.vote(0, 1), 298);
        FleetDelegates z = new FleetDelegates();
        for (int s = 0; s < 6; s++) {
            z.ship(0, 1, 9000, 9000, 0, s == 0 ? 100 : 0);
        }
        z.hours(1);
        due("of one, five have yielded", z.vote(0, 1), 1);
        z.set(2, 100);
        z.hours(2);
        due("of none, all have yielded", z.count(1) * 10 + z.vote(0, 1), 61);
    }

    private static void owedMost() {
        DUE.says("OWED to a SHIP in an HOUR: MEN times N of all owe IN FORCE for it, or all, together.");
        FleetDelegates x = fleet(900, 1);
        StringBuilder ten = new StringBuilder("owe 0 99");
        for (int i = 1; i < 10; i++) {
            ten.append(i % 2 == 0 ? ";owe 0 99" : ";owe all 99");
        }
        articles(x, 0, ten.toString(), 10);
        due("all ten, 900 men", x.owed(0, 0, 0), 900 * 990);
        due("five of all, one man", x.owed(0, 1, 0), 495);
        articles(x, 1, "owe 0 0", 1);
        due("0 each", x.owed(1, 0, 0), 0);
    }

    private static void voicesLast() {
        DUE.says("VOICES of a SHIP: N of the last voice IN FORCE for it, or all; 1 without.");
        FleetDelegates x = fleet(1, 1);
        due("without", x.voices(0, 1, 0), 1);
        articles(x, 0, "voice 0 0", 1);
        due("0", x.voices(0, 0, 0), 0);
        due("without one for it", x.voices(0, 1, 0), 1);
        articles(x, 0, "voice 0 99;voice all 0;voice 1 99", 3);
        due("the last one is all", x.voices(0, 0, 0), 0);
        due("the last one is its own", x.voices(0, 1, 0), 99);
        articles(x, 0, "voice 0 3;voice 0 2 from 1;carry 5", 3);
        due("the last one is not yet in force", x.voices(0, 0, 0), 3);
        due("it is", x.voices(0, 0, 1), 2);
    }

    private static void sixteenFellows() {
        DUE.says("FELLOWS are numbered from 0, 16 at most, each of a SHIP, with DOINGS (bits 0 .. 5).");
        FleetDelegates x = fleet(1, 1, 1, 1, 1, 1);
        for (int doings : Due.beyond(0, 63)) {
            due("doings " + doings, x.fellow(0, doings), OUTSIDE);
        }
        for (int ship : Due.beyond(0, 5)) {
            due("of ship " + ship, x.fellow(ship, 0), UNKNOWN);
        }
        due("none is named", x.named(0, 0), 0);
        for (int f = 0; f < 16; f++) {
            due("before it there are", x.count(5), f);
            due("it is not there", x.word(0, f, 0), UNKNOWN);
            due("a fellow", x.fellow(f % 6, f == 15 ? 63 : 0), f);
            due("it is there", x.word(0, f, 0), NONE);
            due("all that are there are named", x.named(0, 0), (2 << f) - 1);
        }
        due("a seventeenth", x.fellow(0, 0), FULL);
        due("an eighteenth", x.fellow(5, 63), FULL);
        due("there are", x.count(5), 16);
        due("the seventeenth is not there", x.word(0, 16, 0), UNKNOWN);
        due("sixteen are named", x.named(0, 0), 65535);
        articles(x, 0, "pardon all but 5", 1);
        due("the last one alone is not pardoned", x.named(0, 0), 32768);
        articles(x, 0, "pardon 0", 1);
        due("those of the first ship are", x.named(0, 0), 65535 & ~(1 | 1 << 6 | 1 << 12));
    }

    private static void pardoned() {
        DUE.says("has no but, or a but whose DOING the FELLOW did not do.");
        FleetDelegates x = fleet(1, 1);
        for (int k = 0; k < 6; k++) {
            x.fellow(0, 1 << k);
            x.fellow(0, 63 & ~(1 << k));
        }
        for (int k = 0; k < 6; k++) {
            articles(x, 0, "pardon 0 but " + k, 1);
            int named = 0;
            for (int f = 0; f < 12; f++) {
                boolean did = f % 2 == 0 ? f / 2 == k : f / 2 != k;
                named |= did ? 1 << f : 0;
            }
            due("but " + k, x.named(0, 0), named);
        }
        articles(x, 0, "pardon 0", 1);
        due("no but", x.named(0, 0), 0);
        articles(x, 0, "pardon 1", 1);
        due("of another ship", x.named(0, 0), 4095);
    }

    private static void words() {
        DUE.says("WORD of one that is not: the least K without whose buts (all of pardons IN FORCE with it; they stand without but then) it would be; none.");
        FleetDelegates x = fleet(1, 1);
        x.fellow(0, 63);
        due("no pardon", x.word(0, 0, 0), NONE);
        for (int k = 0; k < 6; k++) {
            articles(x, 0, "pardon 0 but " + k, 1);
            due("but " + k, x.word(0, 0, 0), k);
            articles(x, 0, "pardon all but 5;pardon 0 but " + k, 2);
            due("the last one, but " + k, x.word(0, 0, 0), k);
            articles(x, 0, "pardon 0 but " + k + ";pardon all but 5", 2);
            due("the first one, but " + k, x.word(0, 0, 0), k);
            articles(x, 0, "pardon 1 but " + k, 1);
            due("of another ship, but " + k, x.word(0, 0, 0), NONE);
        }
        articles(x, 0, "pardon 0 but 0 from 1 to 1;pardon 0 but 3 from 1 to 2", 2);
        int[] due = {NONE, 0, 3, NONE};
        for (int hour = 0; hour < 4; hour++) {
            due("in force in hour " + hour, x.word(0, 0, hour), due[hour]);
        }
    }

    private static void promise12() {
        DUE.says("n (1 .. 8) bytes more of THE TEXT, byte i being bytes >> 8 i & 255: how many it has. OUTSIDE; FULL.");
        FleetDelegates x = new FleetDelegates();
        for (int n : Due.beyond(1, 8)) {
            due("n " + n, x.write(BLANKS, n), OUTSIDE);
        }
        due("none of them wrote", x.count(8), 0);
        due("one", x.write(0x6f77ffffffffff63L, 1), 1);
        due("eight", x.write(0x2020352079727261L, 8), 9);
        due("byte 0 is the lowest, byte 7 the highest", x.fault(), NONE);
        x.erase();
        due("those behind n are not written", x.write(0xffffffffffff2020L, 2), 2);
        due("two blanks", x.fault(), 2);
        x.erase();
        x.write(0x8020202020202020L, 8);
        due("byte 7 of 128", x.fault(), 7);
        x.erase();
        x.write(0x3520797272616320L, 8);
        due("byte 7 is the N", x.fault(), NONE);
        x.erase();
        x.write(Long.MIN_VALUE, 1);
        due("byte 0 of the least number is 0", x.fault(), 0);
        x.erase();
        x.write(Long.MAX_VALUE, 8);
        due("bytes of 255", x.fault(), 0);
        x.erase();
        x.write(0x20ff6f20L, 4);
        due("a row of one letter", x.fault(), 1);
    }

    private static void promise13() {
        DUE.says("THE TEXT is empty: how many bytes it had.");
        FleetDelegates x = new FleetDelegates();
        due("of none", x.erase(), 0);
        x.write('c', 1);
        due("of one", x.erase(), 1);
        due("of none again", x.erase(), 0);
        fill(x, 200, "carry 5");
        due("of a full one", x.erase(), 200);
        due("empty", x.count(8), 0);
        due("nothing of it is read", x.fault(), 0);
        x.write('5', 1);
        due("nothing of it stands behind the new", x.fault(), 0);
        due("one again", x.count(8), 1);
    }

    private static void promise14() {
        DUE.says("The place of the FAULT; NONE.");
        FleetDelegates x = new FleetDelegates();
        due("the first place", x.fault(), 0);
        fill(x, 200, "carry");
        due("the last place", x.fault(), 200);
        due("asked again", x.fault(), 200);
        due("the text stays", x.count(8), 200);
        Due.faultOf(x, "carry 5");
        due("none", x.fault(), NONE);
        due("asked again, none", x.fault(), NONE);
    }

    private static void promise15() {
        DUE.says("THE TEXT becomes THE ARTICLES of a BOOK, and is empty then: how many. UNKNOWN; NOT: it has a FAULT.");
        FleetDelegates x = fleet(100);
        due("an empty text", x.articles(0), NOT);
        articles(x, 0, "owe 0 1", 1);
        due("it is empty then", x.count(8), 0);
        due("once alone", x.articles(1), NOT);
        due("the board's is empty", x.owed(1, 0, 0), 0);
        articles(x, 0, "owe 0 2;owe 0 100", NOT);
        due("the text stays", x.count(8), 17);
        due("the book stays", x.owed(0, 0, 0), 100);
        due("a fault of a book that is not there", x.articles(2), UNKNOWN);
        x.erase();
        due("an empty text, a full book", x.articles(0), NOT);
        due("the book stays full", x.owed(0, 0, 0), 100);
        Due.write(x, "owe 0 2;owe 0 1;owe 0");
        due("one token too few", x.articles(0), NOT);
        Due.write(x, " 4");
        due("the rest of it", x.articles(0), 3);
        due("all of them", x.owed(0, 0, 0), 700);
    }

    private static void promise16() {
        DUE.says("OWED to a SHIP by a BOOK in an HOUR (0 .. 3000). UNKNOWN; OUTSIDE.");
        FleetDelegates x = fleet(100, 200);
        articles(x, 1, "owe 1 9 from 0 to 0;owe 1 8 from 3000", 2);
        for (int hour : Due.beyond(0, 3000)) {
            due("hour " + hour, x.owed(1, 1, hour), OUTSIDE);
        }
        for (int ship : Due.beyond(0, 1)) {
            due("ship " + ship, x.owed(1, ship, 0), UNKNOWN);
            due("book " + ship, x.owed(ship, 1, 0), UNKNOWN);
        }
        due("hour 0", x.owed(1, 1, 0), 1800);
        due("hour 3000", x.owed(1, 1, 3000), 1600);
        due("book 0", x.owed(0, 1, 0), 0);
        due("ship 0", x.owed(1, 0, 0), 0);
    }

    private static void promise17() {
        DUE.says("VOICES of a SHIP by a BOOK in an HOUR. UNKNOWN; OUTSIDE.");
        FleetDelegates x = fleet(100, 200);
        articles(x, 1, "voice 1 9 from 0 to 0;voice 1 8 from 3000", 2);
        for (int hour : Due.beyond(0, 3000)) {
            due("hour " + hour, x.voices(1, 1, hour), OUTSIDE);
        }
        for (int ship : Due.beyond(0, 1)) {
            due("ship " + ship, x.voices(1, ship, 0), UNKNOWN);
            due("book " + ship, x.voices(ship, 1, 0), UNKNOWN);
        }
        due("hour 0", x.voices(1, 1, 0), 9);
        due("hour 3000", x.voices(1, 1, 3000), 8);
        due("book 0", x.voices(0, 1, 0), 1);
        due("ship 0", x.voices(1, 0, 0), 1);
    }

    private static void promise18() {
        DUE.says("The first HOUR from one on (up to 3000) in which the BOOKS tell otherwise what is OWED to a SHIP; NONE. UNKNOWN; OUTSIDE.");
        FleetDelegates x = fleet(100, 1);
        for (int hour : Due.beyond(0, 3000)) {
            due("hour " + hour, x.unlike(0, hour), OUTSIDE);
        }
        for (int ship : Due.beyond(0, 1)) {
            due("ship " + ship, x.unlike(ship, 0), UNKNOWN);
        }
        due("empty books, from 0", x.unlike(0, 0), NONE);
        due("empty books, from 3000", x.unlike(0, 3000), NONE);
        articles(x, 0, "owe 0 1 from 3000", 1);
        due("3000 from 0", x.unlike(0, 0), 3000);
        due("3000 from 2999", x.unlike(0, 2999), 3000);
        due("3000 from 3000", x.unlike(0, 3000), 3000);
        due("for the other one", x.unlike(1, 0), NONE);
        articles(x, 0, "owe 0 1 from 0 to 0", 1);
        due("0 from 0", x.unlike(0, 0), 0);
        due("0 from 1", x.unlike(0, 1), NONE);
        articles(x, 1, "owe 0 2 from 0 to 2999", 1);
        due("2999 from 2999", x.unlike(0, 2999), 2999);
        due("2999 from 3000", x.unlike(0, 3000), NONE);
        articles(x, 0, "owe 0 2", 1);
        due("one ends before the other", x.unlike(0, 0), 3000);
        articles(x, 1, "owe 0 1;owe all 1", 2);
        due("the same by others", x.unlike(0, 0), NONE);
        articles(x, 1, "owe all 2 from 10;owe all 1 from 0 to 9;owe 0 1 from 0 to 8", 3);
        due("one hour otherwise", x.unlike(0, 0), 9);
        due("behind it", x.unlike(0, 10), NONE);
    }

    /** Articles that owe nothing, each with two changes of force that no other one has. */
    private static String changes(int articles, int first) {
        StringBuilder s = new StringBuilder();
        for (int i = 0; i < articles; i++) {
            s.append("owe0 0from").append(first + 4 * i).append("to").append(first + 4 * i + 1).append(';');
        }
        return s.toString();
    }

    private static void promise18Full() {
        DUE.says("The first HOUR from one on (up to 3000) in which the BOOKS tell otherwise what is OWED to a SHIP; NONE.");
        FleetDelegates x = fleet(100);
        articles(x, 0, changes(9, 10) + "owe0 7from3000", 10);
        articles(x, 1, changes(9, 11) + "carry 5", 10);
        due("behind as many changes as two full books have", x.unlike(0, 0), 3000);
        articles(x, 1, changes(9, 11) + "owe0 7from3000", 10);
        due("two full books that owe alike", x.unlike(0, 0), NONE);
        articles(x, 0, changes(9, 10) + "owe0 7from2999", 10);
        due("an hour before the other one", x.unlike(0, 0), 2999);
        due("in the last hour alike", x.unlike(0, 3000), NONE);
    }

    private static void promise19() {
        DUE.says("A FELLOW: the number. UNKNOWN; OUTSIDE; FULL.");
        FleetDelegates x = new FleetDelegates();
        due("of no ship", x.fellow(0, 0), UNKNOWN);
        x.ship(0, 1, 0, 0, 0, 0);
        due("doings 0", x.fellow(0, 0), 0);
        due("doings 63", x.fellow(0, 63), 1);
        due("doings 64", x.fellow(0, 64), OUTSIDE);
        due("the next ship", x.fellow(1, 0), UNKNOWN);
    }

    private static void promise20() {
        DUE.says("FELLOWS that are not PARDONED by a BOOK in an HOUR, by bits. UNKNOWN; OUTSIDE.");
        FleetDelegates x = fleet(1);
        due("of none", x.named(0, 0), 0);
        x.fellow(0, 0);
        articles(x, 1, "pardon 0 from 0 to 0;pardon 0 from 3000", 2);
        for (int hour : Due.beyond(0, 3000)) {
            due("hour " + hour, x.named(1, hour), OUTSIDE);
        }
        for (int book : Due.beyond(0, 1)) {
            due("book " + book, x.named(book, 0), UNKNOWN);
        }
        due("hour 0", x.named(1, 0), 0);
        due("hour 1", x.named(1, 1), 1);
        due("hour 2999", x.named(1, 2999), 1);
        due("hour 3000", x.named(1, 3000), 0);
        due("book 0", x.named(0, 0), 1);
    }

    private static void promise21() {
        DUE.says("WORD of a FELLOW by a BOOK in an HOUR; NONE. UNKNOWN; OUTSIDE; NOT: it is PARDONED.");
        FleetDelegates x = fleet(1);
        due("of none", x.word(0, 0, 0), UNKNOWN);
        x.fellow(0, 1);
        x.fellow(0, 3);
        articles(x, 1, "pardon 0 but 0 from 0 to 0;pardon 0 but 1 from 3000", 2);
        for (int hour : Due.beyond(0, 3000)) {
            due("hour " + hour, x.word(1, 0, hour), OUTSIDE);
        }
        for (int book : Due.beyond(0, 1)) {
            due("book " + book, x.word(book, 0, 0), UNKNOWN);
            due("fellow " + book, x.word(1, book, 0), UNKNOWN);
        }
        due("hour 0", x.word(1, 0, 0), 0);
        due("hour 1", x.word(1, 0, 1), NONE);
        due("hour 3000, pardoned", x.word(1, 0, 3000), NOT);
        due("hour 3000, the last fellow", x.word(1, 1, 3000), 1);
        due("book 0", x.word(0, 1, 0), NONE);
    }

    public static void main(String[] args) {
        twoHundredBytes();
        tenArticles();
        shipNumbers();
        numbers();
        secondHour();
        signs();
        bytes();
        rows();
        forms();
        firstWords();
        endTooSoon();
        books();
        forces();
        carryInForce();
        halves();
        owedMost();
        voicesLast();
        sixteenFellows();
        pardoned();
        words();
        promise12();
        promise13();
        promise14();
        promise15();
        promise16();
        promise17();
        promise18();
        promise18Full();
        promise19();
        promise20();
        promise21();
        DUE.end();
    }
}
