/** Where two refusals or more fit at once: the first of UNKNOWN, OUTSIDE, NOT, FULL, for each call that has two of them. */
public final class OrderTest {
    private static final Due DUE = new Due("OrderTest");
    private static final int NONE = Due.NONE, UNKNOWN = Due.UNKNOWN, OUTSIDE = Due.OUTSIDE, NOT = Due.NOT, FULL = Due.FULL;
    private static final int LEAST = Integer.MIN_VALUE, MOST = Integer.MAX_VALUE;

    private static void due(String call, long got, long want) {
        DUE.due(call, got, want);
    }

    /** All that can be full is full: ships, papers, boats, fellows, batteries, officers, bytes. Ship 5 has yielded. */
    private static FleetDelegates full() {
        FleetDelegates x = new FleetDelegates();
        x.set(3, 0xffffff);
        for (int s = 0; s < 6; s++) {
            x.ship(0, 1, 20, 30, 0, s == 5 ? 29 : 100);
        }
        x.hours(1);
        Due.articles(x, 0, "pardon all");
        for (int i = 0; i < 16; i++) {
            x.paper(0, 0);
            x.boat(0, 1, 0, 0, NONE);
            x.fellow(0, 0);
            x.battery(0, 0, 1);
            x.officer(0, 0);
        }
        for (int i = 0; i < 25; i++) {
            x.write(0, 8);
        }
        return x;
    }

    private static void isFull() {
        FleetDelegates x = full();
        due("a ship", x.ship(0, 1, 0, 0, 0, 0), FULL);
        due("a paper", x.paper(0, 0), FULL);
        due("a boat", x.boat(0, 1, 0, 0, NONE), FULL);
        due("a fellow", x.fellow(0, 0), FULL);
        due("a battery", x.battery(0, 0, 1), FULL);
        due("an officer", x.officer(0, 0), FULL);
        due("a byte", x.write(0, 1), FULL);
        due("one has yielded", x.at(5, 5), 0);
    }

    private static int ship(FleetDelegates x, int[] a) {
        return x.ship(a[0], a[1], a[2], a[3], a[4], a[5]);
    }

    private static void ships() {
        int[] most = {63, 900, 9000, 9000, 100, 100};
        int[] least = {0, 1, 0, 0, 0, 0};
        for (int i = 1; i < 6; i++) {
            for (int v : Due.beyond(least[i], most[i])) {
                int[] a = {0, 1, 0, 0, 0, 0};
                a[i] = v;
                due("ship, OUTSIDE " + i + " and FULL", ship(full(), a), OUTSIDE);
                for (int cell : Due.beyond(0, 63)) {
                    a[0] = cell;
                    due("ship, UNKNOWN and OUTSIDE " + i, ship(new FleetDelegates(), a), UNKNOWN);
                    due("ship, UNKNOWN and OUTSIDE " + i + " and FULL", ship(full(), a), UNKNOWN);
                }
            }
        }
        for (int cell : Due.beyond(0, 63)) {
            due("ship, UNKNOWN and FULL", full().ship(cell, 1, 0, 0, 0, 0), UNKNOWN);
        }
        due("ship, all OUTSIDE and FULL", full().ship(0, 0, -1, -1, -1, -1), OUTSIDE);
        due("ship, all of them wrong and FULL", full().ship(-1, 0, -1, -1, -1, -1), UNKNOWN);
    }

    /** UNKNOWN is first, then OUTSIDE: a call with a place for each, and FULL if the object is. */
    private static void papersFellowsOfficers() {
        FleetDelegates x = full();
        FleetDelegates y = new FleetDelegates();
        for (int ship : Due.beyond(0, 5)) {
            due("paper, UNKNOWN and OUTSIDE", y.paper(ship, 101), UNKNOWN);
            due("fellow, UNKNOWN and OUTSIDE", y.fellow(ship, 64), UNKNOWN);
            due("officer, UNKNOWN and OUTSIDE", y.officer(ship, 16), UNKNOWN);
            due("paper, UNKNOWN and FULL", x.paper(ship, 0), UNKNOWN);
            due("fellow, UNKNOWN and FULL", x.fellow(ship, 0), UNKNOWN);
            due("officer, UNKNOWN and FULL", x.officer(ship, 0), UNKNOWN);
            due("paper, UNKNOWN and OUTSIDE and FULL", x.paper(ship, -1), UNKNOWN);
            due("fellow, UNKNOWN and OUTSIDE and FULL", x.fellow(ship, -1), UNKNOWN);
            due("officer, UNKNOWN and OUTSIDE and FULL", x.officer(ship, -1), UNKNOWN);
        }
        for (int v : Due.beyond(0, 100)) {
            due("paper, OUTSIDE and FULL", x.paper(0, v), OUTSIDE);
            due("fellow, OUTSIDE and FULL", x.fellow(5, v), OUTSIDE);
            due("officer, OUTSIDE and FULL", x.officer(5, v), OUTSIDE);
        }
    }

    private static void batteries() {
        FleetDelegates x = full();
        FleetDelegates y = new FleetDelegates();
        for (int cell : Due.beyond(0, 63)) {
            due("battery, UNKNOWN and OUTSIDE range", y.battery(cell, 8, 1), UNKNOWN);
            due("battery, UNKNOWN and OUTSIDE guns", y.battery(cell, 0, 0), UNKNOWN);
            due("battery, UNKNOWN and FULL", x.battery(cell, 0, 1), UNKNOWN);
            due("battery, UNKNOWN and OUTSIDE and FULL", x.battery(cell, -1, 51), UNKNOWN);
        }
        for (int v : Due.beyond(0, 50)) {
            due("battery, OUTSIDE range and FULL", x.battery(0, v, 1), OUTSIDE);
            due("battery, OUTSIDE guns and FULL", x.battery(0, 0, v), OUTSIDE);
            due("battery, OUTSIDE both and FULL", x.battery(0, v, v), OUTSIDE);
        }
    }

    /** Ships 0 with little and paper 0, 1 with paper 1; twelve boats on the way if it is full. */
    private static FleetDelegates boats(boolean isFull) {
        FleetDelegates x = new FleetDelegates();
        x.ship(0, 1, 20, 30, 0, 100);
        x.ship(63, 1, 20, 30, 0, 100);
        x.paper(0, 0);
        x.paper(1, 0);
        for (int b = 0; isFull && b < 12; b++) {
            x.boat(0, 1, 0, 0, NONE);
        }
        return x;
    }

    private static void boats() {
        for (int i = 0; i < 2; i++) {
            FleetDelegates x = boats(i == 1);
            String and = i == 1 ? " and FULL" : "";
            for (int ship : Due.beyond(0, 1)) {
                due("boat, UNKNOWN from" + and, x.boat(ship, 1, 0, 0, NONE), UNKNOWN);
                due("boat, UNKNOWN to" + and, x.boat(0, ship, 0, 0, NONE), UNKNOWN);
                due("boat, UNKNOWN paper" + and, x.boat(0, 1, 0, 0, ship == -1 ? -2 : ship), UNKNOWN);
                due("boat, UNKNOWN both, to itself" + and, x.boat(ship, ship, 0, 0, NONE), UNKNOWN);
                due("boat, UNKNOWN from, OUTSIDE beef" + and, x.boat(ship, 1, 901, 0, NONE), UNKNOWN);
                due("boat, UNKNOWN to, OUTSIDE water" + and, x.boat(0, ship, 0, -1, NONE), UNKNOWN);
                due("boat, UNKNOWN to, NOT so much beef" + and, x.boat(0, ship, 21, 0, NONE), UNKNOWN);
                due("boat, UNKNOWN to, NOT so much water" + and, x.boat(0, ship, 0, 31, NONE), UNKNOWN);
                due("boat, UNKNOWN to, NOT known" + and, x.boat(0, ship, 0, 0, 1), UNKNOWN);
                due("boat, UNKNOWN to, OUTSIDE beef, NOT known" + and, x.boat(0, ship, -1, 0, 1), UNKNOWN);
            }
            due("boat, UNKNOWN paper, OUTSIDE to itself" + and, x.boat(0, 0, 0, 0, 2), UNKNOWN);
            due("boat, UNKNOWN paper, OUTSIDE beef" + and, x.boat(0, 1, 901, 0, -2), UNKNOWN);
            due("boat, UNKNOWN paper, OUTSIDE water" + and, x.boat(0, 1, 0, -1, 2), UNKNOWN);
            due("boat, UNKNOWN paper, NOT so much beef" + and, x.boat(0, 1, 21, 0, 2), UNKNOWN);
            due("boat, UNKNOWN paper, NOT so much water" + and, x.boat(0, 1, 0, 31, -2), UNKNOWN);
            due("boat, OUTSIDE to itself" + and, x.boat(0, 0, 0, 0, NONE), OUTSIDE);
            due("boat, OUTSIDE to itself, NOT so much beef" + and, x.boat(0, 0, 21, 0, NONE), OUTSIDE);
            due("boat, OUTSIDE to itself, NOT so much water" + and, x.boat(1, 1, 0, 31, NONE), OUTSIDE);
            due("boat, OUTSIDE to itself, NOT known" + and, x.boat(0, 0, 0, 0, 1), OUTSIDE);
            due("boat, OUTSIDE beef" + and, x.boat(0, 1, -1, 0, NONE), OUTSIDE);
            due("boat, OUTSIDE beef, which is NOT there" + and, x.boat(0, 1, 901, 0, NONE), OUTSIDE);
            due("boat, OUTSIDE water, which is NOT there" + and, x.boat(0, 1, 0, 901, NONE), OUTSIDE);
            due("boat, OUTSIDE beef, NOT so much water" + and, x.boat(0, 1, -1, 31, NONE), OUTSIDE);
            due("boat, OUTSIDE water, NOT so much beef" + and, x.boat(0, 1, 21, -1, NONE), OUTSIDE);
            due("boat, OUTSIDE beef, NOT known" + and, x.boat(0, 1, 901, 0, 1), OUTSIDE);
            due("boat, OUTSIDE water, NOT known" + and, x.boat(0, 1, 0, -1, 1), OUTSIDE);
            due("boat, NOT so much beef" + and, x.boat(0, 1, 21, 0, NONE), NOT);
            due("boat, NOT so much water" + and, x.boat(0, 1, 0, 31, NONE), NOT);
            due("boat, NOT known" + and, x.boat(0, 1, 0, 0, 1), NOT);
            due("boat, NOT so much, NOT known" + and, x.boat(0, 1, 900, 900, 1), NOT);
            due("boat, none of them" + and, x.boat(0, 1, 20, 30, 0), i == 1 ? FULL : 7);
        }
    }

    private static void signals() {
        FleetDelegates x = full();
        for (int v : Due.beyond(0, 2)) {
            due("signal, UNKNOWN and OUTSIDE", x.signal(6, v), UNKNOWN);
            due("signal, UNKNOWN and OUTSIDE", x.signal(-1, v), UNKNOWN);
            due("signal, OUTSIDE and NOT", x.signal(5, v), OUTSIDE);
            due("signal, OUTSIDE", x.signal(0, v), OUTSIDE);
        }
        due("signal, NOT", x.signal(5, 2), NOT);
        due("signal, none of them", x.signal(0, 2), NONE);
    }

    /** A SHIP that is not there, and another number that is not as told. */
    private static void unknownThenOutside() {
        FleetDelegates x = full();
        FleetDelegates y = new FleetDelegates();
        for (int v : new int[] {-2, 3001, LEAST, MOST}) {
            for (int ship : new int[] {-1, 6, LEAST, MOST}) {
                due("at, UNKNOWN and OUTSIDE", x.at(ship, v), UNKNOWN);
                due("knows, UNKNOWN and OUTSIDE", x.knows(ship, v), UNKNOWN);
                due("unlike, UNKNOWN and OUTSIDE", x.unlike(ship, v), UNKNOWN);
                due("slip, UNKNOWN and OUTSIDE", x.slip(ship, v), UNKNOWN);
                due("needs, UNKNOWN and OUTSIDE", x.needs(ship, v), UNKNOWN);
                due("would, UNKNOWN and OUTSIDE offer", x.would(ship, v, 1), UNKNOWN);
                due("would, UNKNOWN and OUTSIDE hours", x.would(ship, -1, v), UNKNOWN);
                due("would, UNKNOWN and OUTSIDE both", x.would(ship, v, v), UNKNOWN);
                due("ask, UNKNOWN and OUTSIDE one", x.ask(ship, v, 0), UNKNOWN);
                due("ask, UNKNOWN and OUTSIDE two", x.ask(ship, 0, v), UNKNOWN);
                due("owed, UNKNOWN ship and OUTSIDE", x.owed(0, ship, v), UNKNOWN);
                due("voices, UNKNOWN ship and OUTSIDE", x.voices(1, ship, v), UNKNOWN);
                due("owed, UNKNOWN book and OUTSIDE", x.owed(ship, 0, v), UNKNOWN);
                due("voices, UNKNOWN book and OUTSIDE", x.voices(ship, 5, v), UNKNOWN);
                due("named, UNKNOWN and OUTSIDE", x.named(ship, v), UNKNOWN);
                due("word, UNKNOWN book and OUTSIDE", x.word(ship, 0, v), UNKNOWN);
            }
            due("of no ships, at", y.at(0, v), UNKNOWN);
            due("of no ships, knows", y.knows(0, v), UNKNOWN);
            due("of no ships, unlike", y.unlike(0, v), UNKNOWN);
            due("of no ships, slip", y.slip(0, v), UNKNOWN);
            due("of no ships, needs", y.needs(0, v), UNKNOWN);
            due("of no ships, would", y.would(0, v, v), UNKNOWN);
            due("of no ships, owed", y.owed(0, 0, v), UNKNOWN);
            due("of no ships, voices", y.voices(0, 0, v), UNKNOWN);
            due("of no fellows, word", y.word(0, 0, v), UNKNOWN);
        }
    }

    private static void words() {
        FleetDelegates x = full();
        for (int fellow : Due.beyond(0, 15)) {
            for (int hour : Due.beyond(0, 3000)) {
                due("word, UNKNOWN fellow and OUTSIDE", x.word(0, fellow, hour), UNKNOWN);
            }
            due("word, UNKNOWN fellow and book", x.word(2, fellow, 0), UNKNOWN);
        }
        for (int hour : Due.beyond(0, 3000)) {
            due("word, OUTSIDE and NOT", x.word(0, 15, hour), OUTSIDE);
        }
        due("word, UNKNOWN book of one that is pardoned", x.word(2, 15, 0), UNKNOWN);
        due("word, NOT", x.word(0, 15, 3000), NOT);
    }

    private static void texts() {
        FleetDelegates x = full();
        for (int n : Due.beyond(1, 8)) {
            due("write, OUTSIDE and FULL", x.write(0, n), OUTSIDE);
        }
        due("write, FULL", x.write(0, 8), FULL);
        for (int book : Due.beyond(0, 1)) {
            due("articles, UNKNOWN and NOT", x.articles(book), UNKNOWN);
            due("articles of an empty text, UNKNOWN and NOT", new FleetDelegates().articles(book), UNKNOWN);
        }
        due("articles, NOT", x.articles(0), NOT);
    }

    private static void beyond3000() {
        FleetDelegates x = new FleetDelegates();
        x.ship(0, 1, 0, 0, 0, 0);
        for (int i = 0; i < 50; i++) {
            x.hours(60);
        }
        due("would, UNKNOWN and OUTSIDE beyond 3000", x.would(1, -1, 1), UNKNOWN);
        due("would, UNKNOWN and OUTSIDE beyond 3000", x.would(-1, 0, 60), UNKNOWN);
        due("would, OUTSIDE beyond 3000", x.would(0, 0, 1), OUTSIDE);
        due("signal, OUTSIDE and NOT", x.signal(0, 3), OUTSIDE);
        due("signal, NOT", x.signal(0, 0), NOT);
    }

    public static void main(String[] args) {
        DUE.says("Refused, and nothing changes: UNKNOWN (no such CELL, SHIP, PAPER, BOOK, FELLOW, OFFICER, ASK),"
            + " OUTSIDE (another number is not as told), NOT (not now: as told), FULL: the first of these that fits.");
        isFull();
        ships();
        papersFellowsOfficers();
        batteries();
        boats();
        signals();
        unknownThenOutside();
        words();
        texts();
        beyond3000();
        DUE.end();
    }
}
