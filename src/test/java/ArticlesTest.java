/** Promises 12 to 21: the text, its faults, articles, what is owed, voices, fellows. */
public final class ArticlesTest {
    private static final Due DUE = new Due("ArticlesTest");
    private static final int NONE = Due.NONE, UNKNOWN = Due.UNKNOWN, OUTSIDE = Due.OUTSIDE, NOT = Due.NOT, FULL = Due.FULL;

    private static void due(String call, long got, long want) {
        DUE.due(call, got, want);
    }

    private static FleetDelegates fleet(int... men) {
        FleetDelegates x = new FleetDelegates();
        for (int m : men) {
            x.ship(0, m, 9000, 9000, 50, 100);
        }
        return x;
    }

    private static void promise12() {
        FleetDelegates x = new FleetDelegates();
        due("12: 0 bytes", x.write(0, 0), OUTSIDE);
        due("12: 9 bytes", x.write(0, 9), OUTSIDE);
        due("12: -1 bytes", x.write(0, -1), OUTSIDE);
        due("12: refused, nothing is written", x.count(8), 0);
        due("12: 1 byte of more", x.write(0x7061726f66L, 1), 1);
        due("12: 8 bytes", x.write(-1L, 8), 9);
        due("12: a byte that is none of these", x.fault(), 0);
        x.erase();
        for (int i = 1; i <= 24; i++) {
            due("12: 8 more", x.write(0x2020202020202020L, 8), 8 * i);
        }
        due("12: 7 more", x.write(0x20202020202020L, 7), 199);
        due("12: 2 too many", x.write(0x2020, 2), FULL);
        due("12: 9 bytes of a full one", x.write(0, 9), OUTSIDE);
        due("12: the last one", x.write('x', 1), 200);
        due("12: no more", x.write('x', 1), FULL);
        due("12: 200", x.count(8), 200);
        due("12: the last byte is written", x.fault(), 199);
        x.erase();
        Due.write(x, "carry 7");
        due("12: the low byte first", x.fault(), NONE);
    }

    private static void promise13() {
        FleetDelegates x = new FleetDelegates();
        due("13: nothing there", x.erase(), 0);
        Due.write(x, "carry 71");
        due("13: eight", x.erase(), 8);
        due("13: none left", x.erase(), 0);
        due("13: none in it", x.fault(), 0);
        Due.write(x, "carry");
        due("13: written anew", x.fault(), 5);
    }

    private static void faultless(FleetDelegates x, String text) {
        due("14: '" + text + "'", Due.faultOf(x, text), NONE);
    }

    /** The bar stands at the fault; it is no part of the text. */
    private static void faulty(FleetDelegates x, String marked) {
        int place = marked.indexOf('|');
        String text = marked.substring(0, place) + marked.substring(place + 1);
        due("14: '" + marked + "'", Due.faultOf(x, text), place);
    }

    private static void promise14() {
        FleetDelegates x = fleet(100, 100, 100);
        String[] good = {
            "owe 0 0", "owe 2 99", "owe all 5", "voice 1 7", "voice all 0", "carry 99", "carry 0", "pardon 0",
            "pardon all", "pardon all but 0", "pardon 2 but 5", "owe 1 1 from 0", "voice 1 1 from 3000",
            "carry 5 from 9 to 9", "pardon all from 0 to 3000", "pardon 1 but 3 from 7", "pardon 1 but 3 from 7 to 8",
            "carry 0099", "owe 0002 0001 from 0003 to 3000", "  carry   5  ", "carry 5;carry 6", "carry 5 ; carry 6",
            "owe1 5from 6to7", "owe all5", "pardon all;pardon all but 1;owe 1 1 from 4;voice 2 0 from 1 to 2",
        };
        for (String text : good) {
            faultless(x, text);
        }
        String[] bad = {
            "|", "   |", "|;", "|5", "|Owe 1 1", "|ow", "|oweall 5", "|owez 1 1", "|aowe 1 1", "|ewe 1 1", "|tarry 5", "owe |ill 1", "|owes 1 1", "|all", "|but", "|from 5", "|to 5",
            "owe|", "owe |", "owe 1|", "owe 1 |", "owe |3 1", "owe |; 1", "owe |owe 1", "owe |al 1", "owe |alls 1",
            "owe 1 |100", "owe 1 |all", "owe 1 |00001", "owe |00001 1", "owe 1 |-1", "owe 1 1 |1", "owe 1 1 |to 5",
            "owe 1 1 |but 1", "owe 1 1 |owe", "owe 1 1|.", "owe 1 1|\n", "owe|\t1 1", "owe 1 1|O", "owe|X 1 1",
            "owe 1 1;|", "owe 1 1; |", "owe 1 1;|;owe 1 1", "owe 1 1 ; |1",
            "voice|", "voice |5 1", "voice 1 |100", "voice 1 1 |but 0", "voice all |all",
            "carry|", "carry |all", "carry |100", "carry 5 |5", "carry 5 |but 1", "carry |from 1",
            "pardon|", "pardon |but 1", "pardon |3", "pardon 1 |1", "pardon 1 but|", "pardon 1 but |6",
            "pardon 1 but |all", "pardon 1 but |00000", "pardon 1 but |10", "pardon 1 but 5 |but 4", "pardon 1 |to 5",
            "carry 5 from|", "carry 5 from |3001", "carry 5 from |all", "carry 5 from |to 5", "carry 5 from 5 |from 6",
            "carry 5 from 5 to|", "carry 5 from 5 to |4", "carry 5 from 5 to |3001", "carry 5 from 5 to 5 |to 6",
            "carry 5 from 3000 to |2999", "carry 5 from |9999", "carry 5 from 1 to 2 |from 3", "carry 5 from 1;|to 2",
            "carry 5|\u00e9", "carry 5|\u00ff", "carry 5|\u0000", "carry 5|A", "carry 5|{", "carry 5|`", "carry 5|/", "carry 5|:",
        };
        for (String text : bad) {
            faulty(x, text);
        }
        faulty(x, "carry 5 from 1 to |0 from x");
        due("14: it stays there", x.count(8), "carry 5 from 1 to 0 from x".length());
        due("14: and has its fault", x.fault(), 18);
    }

    private static void promise14Ten() {
        FleetDelegates x = fleet(100);
        String ten = "carry 1;carry 2;carry 3;carry 4;carry 5;carry 6;carry 7;carry 8;carry 9;carry 0";
        faultless(x, ten);
        faulty(x, ten + " |;carry 1");
        faulty(x, ten + "|;");
        faulty(x, ten + " |5");
        faultless(x, ten.substring(8));
        faulty(x, ten.substring(8) + ";|");
    }

    private static void promise14Ships() {
        FleetDelegates x = new FleetDelegates();
        faulty(x, "owe |0 1");
        faultless(x, "owe all 1");
        x.ship(0, 1, 0, 0, 0, 0);
        faultless(x, "owe 0 1");
        faulty(x, "pardon |1");
        x.ship(0, 1, 0, 0, 0, 0);
        due("14: the same text with one ship more", x.fault(), NONE);
    }

    private static void promise15() {
        FleetDelegates x = fleet(100, 200);
        due("15: book -1", x.articles(-1), UNKNOWN);
        due("15: book 2, with a fault", x.articles(2), UNKNOWN);
        due("15: an empty text has a fault", x.articles(0), NOT);
        due("15: three", Due.articles(x, 0, "owe all 5;voice 1 2;pardon all but 3 from 5 to 6"), 3);
        due("15: the text is empty then", x.count(8), 0);
        due("15: the other book is as it was", x.owed(1, 0, 0), 0);
        due("15: a fault", Due.articles(x, 0, "owe all 9;owe all 100"), NOT);
        due("15: nothing changes, the text", x.count(8), 21);
        due("15: nothing changes, the book", x.owed(0, 0, 0), 500);
        due("15: the board's", Due.articles(x, 1, "owe all 7"), 1);
        due("15: in it", x.owed(1, 1, 0), 1400);
        due("15: not in the fleet's", x.owed(0, 1, 0), 1000);
        due("15: instead of what was there", Due.articles(x, 0, "owe 0 1"), 1);
        due("15: no more of the old ones", x.owed(0, 1, 0) + x.voices(0, 1, 0), 1);
        due("15: the new one", x.owed(0, 0, 0), 100);
        Due.faultOf(x, "owe all 9;owe all 9;x");
        due("15: a fault told changes no book", x.owed(0, 0, 0) + x.owed(1, 0, 0), 800);
    }

    private static void bookShipHour(String call, int promise, FleetDelegates x) {
        boolean owed = promise == 16;
        int[][] wrong = {{-1, 0, -1}, {2, 0, 0}, {0, -1, 0}, {0, 3, 3001}, {2, 3, 3001}};
        for (int[] w : wrong) {
            due(promise + ": " + call, owed ? x.owed(w[0], w[1], w[2]) : x.voices(w[0], w[1], w[2]), UNKNOWN);
        }
        due(promise + ": hour -1", owed ? x.owed(0, 0, -1) : x.voices(0, 0, -1), OUTSIDE);
        due(promise + ": hour 3001", owed ? x.owed(1, 2, 3001) : x.voices(1, 2, 3001), OUTSIDE);
    }

    private static void promise16() {
        FleetDelegates x = fleet(900, 1, 250);
        bookShipHour("owed", 16, x);
        Due.articles(x, 0, "owe all 99;owe 0 99 from 10 to 20;owe 2 1 from 15;owe 0 1 from 3000 to 3000;carry 50;voice all 9");
        due("16: all, hour 9", x.owed(0, 0, 9), 900 * 99);
        due("16: together from 10", x.owed(0, 0, 10), 900 * 198);
        due("16: together to 20", x.owed(0, 0, 20), 900 * 198);
        due("16: not in 21", x.owed(0, 0, 21), 900 * 99);
        due("16: the last hour", x.owed(0, 0, 3000), 900 * 100);
        due("16: not for it", x.owed(0, 1, 15), 99);
        due("16: from there on", x.owed(0, 2, 14) + x.owed(0, 2, 15) + x.owed(0, 2, 3000), 250 * (99 + 100 + 100));
        due("16: the other book", x.owed(1, 0, 15), 0);
    }

    private static void promise17() {
        FleetDelegates x = fleet(100, 100, 100);
        bookShipHour("voices", 17, x);
        Due.articles(x, 1, "voice 0 5;voice all 3 from 10 to 20;voice 1 0;voice 0 7 from 15 to 16;owe all 9");
        due("17: hour 9", x.voices(1, 0, 9), 5);
        due("17: the last one in force", x.voices(1, 0, 10), 3);
        due("17: 15", x.voices(1, 0, 15), 7);
        due("17: 17", x.voices(1, 0, 17), 3);
        due("17: 21", x.voices(1, 0, 21), 5);
        due("17: the last one, not the greatest", x.voices(1, 1, 15), 0);
        due("17: all", x.voices(1, 2, 20), 3);
        due("17: 1 without", x.voices(1, 2, 21), 1);
        due("17: the other book", x.voices(0, 0, 9), 1);
    }

    private static void promise18() {
        FleetDelegates x = fleet(100, 100, 900);
        due("18: no such ship", x.unlike(3, 3001), UNKNOWN);
        due("18: ship -1", x.unlike(-1, 0), UNKNOWN);
        due("18: hour -1", x.unlike(0, -1), OUTSIDE);
        due("18: hour 3001", x.unlike(0, 3001), OUTSIDE);
        due("18: both empty", x.unlike(0, 0), NONE);
        Due.articles(x, 0, "owe all 3;owe 0 2 from 7;voice all 9 from 1;carry 3 from 2");
        Due.articles(x, 1, "owe all 1;owe all 2;owe 0 2 from 5 to 8;owe 1 1 from 3000;pardon all from 3");
        due("18: from 0", x.unlike(0, 0), 5);
        due("18: from 5", x.unlike(0, 5), 5);
        due("18: from 6", x.unlike(0, 6), 6);
        due("18: alike in 7 and 8", x.unlike(0, 7), 9);
        due("18: 8 is the last one alike", x.unlike(0, 8), 9);
        due("18: later", x.unlike(0, 100), 100);
        due("18: at the end", x.unlike(0, 3000), 3000);
        due("18: the last hour", x.unlike(1, 0), 3000);
        due("18: never", x.unlike(2, 0), NONE);
        Due.articles(x, 0, "owe all 1 to 2");
        due("18: with a fault nothing changed", x.unlike(2, 0), NONE);
    }

    private static void promise18First() {
        FleetDelegates x = fleet(100);
        Due.articles(x, 0, "owe 0 1 from 40 to 50;owe 0 2");
        Due.articles(x, 1, "owe 0 2;owe 0 1 from 40 to 60");
        due("18: behind the first article of a book", x.unlike(0, 0), 51);
        Due.articles(x, 1, "owe 0 1 from 30;owe 0 2");
        due("18: from the first article of a book", x.unlike(0, 0), 30);
        due("18: alike for a while", x.unlike(0, 40), 51);
    }

    private static void promise18Many() {
        FleetDelegates x = fleet(100);
        StringBuilder fleet = new StringBuilder();
        StringBuilder board = new StringBuilder();
        for (int i = 0; i < 7; i++) {
            String article = "owe 0 1 from " + (10 + 20 * i) + " to " + (20 + 20 * i);
            fleet.append(i == 0 ? "" : ";").append(article);
            board.append(i == 0 ? "" : ";").append(article);
        }
        Due.articles(x, 0, fleet + ";carry 5");
        Due.articles(x, 1, board + ";owe 0 1 from 999");
        due("18: behind many changes", x.unlike(0, 0), 999);
    }

    private static void promise19() {
        FleetDelegates x = fleet(100, 100);
        due("19: no such ship", x.fellow(2, 64), UNKNOWN);
        due("19: ship -1", x.fellow(-1, 0), UNKNOWN);
        due("19: doings -1", x.fellow(0, -1), OUTSIDE);
        due("19: doings 64", x.fellow(0, 64), OUTSIDE);
        for (int f = 0; f < 16; f++) {
            due("19: the next", x.fellow(f % 2, 4 * f + 3), f);
        }
        due("19: a seventeenth", x.fellow(0, 0), FULL);
        due("19: a seventeenth with 64", x.fellow(0, 64), OUTSIDE);
        due("19: a seventeenth of no ship", x.fellow(2, 0), UNKNOWN);
        due("19: sixteen", x.count(5), 16);
    }

    private static FleetDelegates fellows() {
        FleetDelegates x = fleet(100, 100, 100);
        x.fellow(0, 0);
        x.fellow(0, 63);
        x.fellow(1, 0b000101);
        x.fellow(2, 0b111010);
        return x;
    }

    private static void promise20() {
        FleetDelegates x = fellows();
        due("20: book -1", x.named(-1, 0), UNKNOWN);
        due("20: book 2", x.named(2, 3001), UNKNOWN);
        due("20: hour -1", x.named(0, -1), OUTSIDE);
        due("20: hour 3001", x.named(1, 3001), OUTSIDE);
        due("20: without articles all", x.named(0, 0), 15);
        Due.articles(x, 0, "pardon 0 but 0 from 5 to 9;pardon all but 1 from 8;pardon 2 from 20;pardon 1 but 2 from 12;owe all 1");
        due("20: 4", x.named(0, 4), 15);
        due("20: but 0", x.named(0, 5), 14);
        due("20: but 1", x.named(0, 8), 10);
        due("20: to 9", x.named(0, 10), 10);
        due("20: one of several is enough", x.named(0, 12), 10);
        due("20: no but", x.named(0, 20), 2);
        due("20: the other book", x.named(1, 20), 15);
        Due.articles(x, 1, "pardon all but 5");
        due("20: but 5", x.named(1, 0), 10);
        Due.articles(x, 1, "pardon all");
        due("20: all", x.named(1, 0), 0);
    }

    private static void promise21() {
        FleetDelegates x = fellows();
        due("21: book -1", x.word(-1, 0, 0), UNKNOWN);
        due("21: book 2", x.word(2, 0, 3001), UNKNOWN);
        due("21: no such fellow", x.word(0, 4, 3001), UNKNOWN);
        due("21: fellow -1", x.word(0, -1, 0), UNKNOWN);
        due("21: hour -1", x.word(0, 0, -1), OUTSIDE);
        due("21: hour 3001", x.word(0, 0, 3001), OUTSIDE);
        due("21: no pardon", x.word(0, 0, 0), NONE);
        Due.articles(x, 0, "pardon all but 4 from 3;pardon 0 but 2;pardon all but 1 from 6 to 8;pardon 2 but 0 from 9;pardon 1 but 0 from 1");
        due("21: pardoned", x.word(0, 0, 0), NOT);
        due("21: pardoned, hour 3001", x.word(0, 0, 3001), OUTSIDE);
        due("21: the one", x.word(0, 1, 0), 2);
        due("21: the least", x.word(0, 1, 6), 1);
        due("21: in force alone", x.word(0, 1, 9), 2);
        due("21: none for it", x.word(0, 2, 0), NONE);
        due("21: for its ship", x.word(0, 2, 1), 0);
        due("21: the other book", x.word(1, 1, 6), NONE);
        due("21: for all", x.word(0, 3, 5), 4);
        due("21: of all in force", x.word(0, 3, 6), 1);
        due("21: it did not do it", x.word(0, 3, 9), NOT);
    }

    public static void main(String[] args) {
        promise12();
        promise13();
        promise14();
        promise14Ten();
        promise14Ships();
        promise15();
        promise16();
        promise17();
        promise18();
        promise18First();
        promise18Many();
        promise19();
        promise20();
        promise21();
        DUE.end();
    }
}
