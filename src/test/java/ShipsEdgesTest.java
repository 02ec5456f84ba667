/** Terms 1 and promises 1 to 11: each sentence that names a boundary, and behind it the tests of that sentence. */
public final class ShipsEdgesTest {
    private static final Due DUE = new Due("ShipsEdgesTest");
    private static final int NONE = Due.NONE, UNKNOWN = Due.UNKNOWN, OUTSIDE = Due.OUTSIDE, NOT = Due.NOT, FULL = Due.FULL;

    private static void due(String call, long got, long want) {
        DUE.due(call, got, want);
    }

    /** Ships that lack nothing for long, with a WILL that nothing is below. */
    private static FleetDelegates fleet(int... cells) {
        FleetDelegates x = new FleetDelegates();
        for (int cell : cells) {
            x.ship(cell, 1, 9000, 9000, 50, 100);
        }
        return x;
    }

    /** A ship alone; LINE is 0, so that it does not yield. */
    private static FleetDelegates alone(int men, int beef, int water, int want, int will) {
        FleetDelegates x = new FleetDelegates();
        x.set(2, 0);
        x.ship(0, men, beef, water, want, will);
        return x;
    }

    private static int ship(FleetDelegates x, int[] a) {
        return x.ship(a[0], a[1], a[2], a[3], a[4], a[5]);
    }

    private static FleetDelegates atHour(FleetDelegates x, int hour) {
        while (x.count(2) + 60 <= hour) {
            x.hours(60);
        }
        if (x.count(2) < hour) {
            x.hours(hour - x.count(2));
        }
        return x;
    }

    private static void cells() {
        DUE.says("CELLS are 0 .. 63 (8 y + x);");
        FleetDelegates x = new FleetDelegates();
        for (int cell : Due.beyond(0, 63)) {
            due("a ship in cell " + cell, x.ship(cell, 1, 0, 0, 0, 0), UNKNOWN);
            due("a battery in cell " + cell, x.battery(cell, 0, 1), UNKNOWN);
        }
        due("a ship in cell 0", x.ship(0, 1, 0, 0, 0, 0), 0);
        due("a ship in cell 63", x.ship(63, 1, 0, 0, 0, 0), 1);
        due("a battery in cell 0", x.battery(0, 0, 1), 1);
        due("a battery in cell 63", x.battery(63, 0, 1), 2);
    }

    private static void far() {
        DUE.says("FAR are two by the greater of the differences of x and y.");
        int[][] fars = {
            {0, 0, 0}, {63, 63, 0}, {0, 1, 1}, {0, 8, 1}, {0, 9, 1}, {1, 8, 1}, {0, 7, 7}, {0, 56, 7}, {0, 63, 7}, {63, 0, 7},
            {7, 56, 7}, {56, 7, 7}, {0, 10, 2}, {0, 17, 2}, {7, 8, 7}, {8, 7, 7}, {55, 56, 7}, {15, 16, 7}, {0, 62, 7}, {0, 55, 7},
            {9, 54, 5}, {54, 9, 5},
        };
        for (int[] f : fars) {
            FleetDelegates x = fleet(f[0], f[1]);
            due("a boat from " + f[0] + " to " + f[1], x.boat(0, 1, 0, 0, NONE), f[2]);
        }
    }

    private static void sixShips() {
        DUE.says("SHIPS are numbered from 0, 6 at most");
        FleetDelegates x = new FleetDelegates();
        due("of none, the first", x.at(0, 0), UNKNOWN);
        for (int s = 0; s < 6; s++) {
            due("before it there are", x.count(0), s);
            due("a ship", x.ship(9 * s, 10 + s, 0, 0, 0, 0), s);
            due("its men", x.at(s, 0), 10 + s);
            due("the next is not there", x.at(s + 1, 0), UNKNOWN);
        }
        due("a seventh", x.ship(63, 99, 0, 0, 0, 0), FULL);
        due("an eighth", x.ship(0, 1, 0, 0, 0, 0), FULL);
        due("there are", x.count(0), 6);
        due("the first one's men", x.at(0, 0), 10);
        due("the last one's men", x.at(5, 0), 15);
    }

    /** The argument at a place of ship(), which at(s, place - 1) tells again. */
    private static void ofShip(String name, int place, int least, int most) {
        FleetDelegates x = new FleetDelegates();
        int[] a = {0, 1, 0, 0, 0, 0};
        for (int v : Due.beyond(least, most)) {
            a[place] = v;
            due(name + " " + v, ship(x, a), OUTSIDE);
        }
        a[place] = least;
        due(name + " " + least, ship(x, a), 0);
        a[place] = most;
        due(name + " " + most, ship(x, a), 1);
        due(name + " of the first", x.at(0, place - 1), least);
        due(name + " of the second", x.at(1, place - 1), most);
    }

    private static void ofShips() {
        DUE.says("with MEN (1 .. 900)");
        ofShip("men", 1, 1, 900);
        DUE.says("BEEF and WATER (0 .. 9000 each)");
        ofShip("beef", 2, 0, 9000);
        ofShip("water", 3, 0, 9000);
        DUE.says("a WANT (0 .. 100)");
        ofShip("want", 4, 0, 100);
        DUE.says("and a WILL (0 .. 100).");
        ofShip("will", 5, 0, 100);
    }

    private static void eats() {
        DUE.says("EATS: MEN by 100, rounded up, of BEEF and of WATER in an HOUR.");
        int[][] eats = {{1, 1}, {99, 1}, {100, 1}, {101, 2}, {199, 2}, {200, 2}, {201, 3}, {799, 8}, {800, 8}, {801, 9}, {899, 9}, {900, 9}};
        for (int[] e : eats) {
            FleetDelegates x = alone(e[0], 1000, 2000, 0, 100);
            due("at(0, 6) with men " + e[0], x.at(0, 6), e[1]);
            x.hours(1);
            due("beef behind an hour with men " + e[0], x.at(0, 1), 1000 - e[1]);
            due("water behind an hour with men " + e[0], x.at(0, 2), 2000 - e[1]);
        }
    }

    /** What a ship saw from another one in the first hour; sight -1: none is told. */
    private static int seen(int from, int by, int sight) {
        FleetDelegates x = fleet(from, by);
        if (sight != -1) {
            x.set(0, sight);
        }
        x.signal(0, 1);
        x.hours(1);
        return x.saw(1, 0);
    }

    private static void sight() {
        DUE.says("SIGHT (0 .. 7; 3 at first).");
        told(0, 7, 3);
        due("at first, far 3", seen(0, 3, -1), 1);
        due("at first, far 4", seen(0, 4, -1), NONE);
        due("0, in its cell", seen(27, 27, 0), 1);
        due("0, far 1", seen(27, 28, 0), NONE);
        due("7, far 7", seen(0, 63, 7), 1);
        due("7, far 7 by x", seen(7, 8, 7), 1);
        due("6, far 7", seen(0, 63, 6), NONE);
        due("6, far 7 by x", seen(7, 8, 6), NONE);
        due("6, far 6", seen(0, 54, 6), 1);
    }

    /** A number that is told by set(), with what it is at first. */
    private static void told(int what, int most, int first) {
        FleetDelegates x = new FleetDelegates();
        for (int v : Due.beyond(0, most)) {
            due("set(" + what + ", " + v + ")", x.set(what, v), OUTSIDE);
        }
        due("set(" + what + ", most), at first", x.set(what, most), first);
        due("set(" + what + ", 0), at most before", x.set(what, 0), most);
        due("set(" + what + ", 0), at least before", x.set(what, 0), 0);
    }

    /** Whether a signal of an hour is seen with that fog; fog -1: none is told. */
    private static int seenIn(int fog, int hour) {
        FleetDelegates x = fleet(0, 0);
        if (fog != -1) {
            x.set(3, fog);
        }
        atHour(x, hour);
        x.signal(0, 2);
        x.hours(1);
        return x.saw(1, 0);
    }

    private static void fog() {
        DUE.says("FOG is in some HOURS of the day (bits of HOUR modulo 24; none at first).");
        int all = (1 << 24) - 1;
        told(3, all, 0);
        for (int hour = 0; hour <= 25; hour++) {
            due("none at first, hour " + hour, seenIn(-1, hour), 2);
            due("in all, hour " + hour, seenIn(all, hour), NONE);
            due("in that one alone, hour " + hour, seenIn(1 << hour % 24, hour), NONE);
            due("in all others, hour " + hour, seenIn(all & ~(1 << hour % 24), hour), 2);
        }
        due("bit 0, hour 2976", seenIn(1, 2976), NONE);
        due("bit 0, hour 2999", seenIn(1, 2999), 2);
        due("bit 23, hour 2999", seenIn(1 << 23, 2999), NONE);
        due("bit 23, hour 2976", seenIn(1 << 23, 2976), 2);
    }

    /** The least hits of a ship in a cell from which one step brings it away, in an hour of ebb. */
    private static int slipIn(int cell, int wind) {
        FleetDelegates x = fleet(cell);
        if (wind != -1) {
            x.set(1, wind);
        }
        x.hours(6);
        return x.slip(0, 1);
    }

    private static void wind() {
        DUE.says("WIND (0 .. 3: to greater x, greater y, lesser x, lesser y; 0 at first) stays till it is told.");
        told(1, 3, 0);
        due("at first", slipIn(48, -1), 0);
        for (int wind = 0; wind < 4; wind++) {
            due("to greater y with wind " + wind, slipIn(48, wind), wind == 3 ? NONE : 0);
        }
        FleetDelegates x = fleet(48);
        x.set(1, 3);
        for (int i = 0; i < 49; i++) {
            x.hours(60);
        }
        x.hours(54);
        due("2994 hours later", x.slip(0, 1), NONE);
        due("it was", x.set(1, 1), 3);
        due("when another one is told", x.slip(0, 1), 0);
    }

    private static void sixPapers() {
        DUE.says("PAPERS are numbered from 0, 6 at most, each with an OFFER (0 .. 100).");
        FleetDelegates x = fleet(0, 0);
        for (int offer : Due.beyond(0, 100)) {
            due("offer " + offer, x.paper(0, offer), OUTSIDE);
        }
        due("no paper yet goes by a boat", x.boat(0, 1, 0, 0, 0), UNKNOWN);
        for (int p = 0; p < 6; p++) {
            due("before it there are", x.count(4), p);
            due("a paper", x.paper(0, p % 2 == 0 ? 0 : 100), p);
        }
        due("a seventh", x.paper(0, 0), FULL);
        due("an eighth by another one", x.paper(1, 100), FULL);
        due("there are", x.count(4), 6);
        due("a ship knows", x.knows(0, 0), 63);
        due("the other one knows", x.knows(1, 0), 0);
        due("the first one goes", x.boat(0, 1, 0, 0, 0), 0);
        due("the last one goes", x.boat(0, 1, 0, 0, 5), 0);
        due("one more is not there", x.boat(0, 1, 0, 0, 6), UNKNOWN);
        x.hours(1);
        due("those came", x.knows(1, 0), 33);
        due("an offer of 0 is nothing to 50, one of 100 is 40 less", x.at(1, 4), 60);
    }

    private static void twelveBoats() {
        DUE.says("A BOAT (12 on the way at most)");
        FleetDelegates x = fleet(0, 9, 18);
        for (int b = 0; b < 12; b++) {
            due("before it there are", x.count(3), b);
            due("a boat", x.boat(0, b == 5 ? 1 : 2, 1, 2, NONE), b == 5 ? 1 : 2);
        }
        due("a thirteenth", x.boat(0, 1, 1, 2, NONE), FULL);
        due("a thirteenth by another one", x.boat(2, 1, 1, 2, NONE), FULL);
        due("there are", x.count(3), 12);
        due("a thirteenth took no beef", x.at(0, 1) * 10000L + x.at(2, 1), (9000 - 12) * 10000L + 9000);
        due("a thirteenth took no water", x.at(0, 2) * 10000L + x.at(2, 2), (9000 - 24) * 10000L + 9000);
        x.hours(1);
        due("before one comes", x.boat(0, 1, 0, 0, NONE), FULL);
        x.hours(1);
        due("one came", x.count(3), 11);
        due("room for one", x.boat(0, 1, 5, 5, NONE), 3);
        due("and no more", x.boat(0, 1, 0, 0, NONE), FULL);
        due("beef before they come", x.at(2, 1), 8998);
        x.hours(1);
        due("eleven came", x.count(3), 1);
        due("all of their water came, 9000 at most", x.at(2, 2), 9000);
        due("all of their beef came, 9000 at most", x.at(2, 1), 9000);
        x.hours(1);
        due("the last one came", x.count(3), 0);
        for (int b = 0; b < 12; b++) {
            due("room for twelve", x.boat(0, 1, 0, 0, NONE), 5);
        }
        due("and no more of them", x.boat(0, 1, 0, 0, NONE), FULL);
    }

    private static void twelveBoatsWithinAnHour() {
        DUE.says("A BOAT (12 on the way at most)");
        FleetDelegates x = new FleetDelegates();
        x.ship(0, 1, 900, 900, 0, 100);
        x.ship(0, 1, 0, 10, 0, 100);
        for (int b = 0; b < 12; b++) {
            x.boat(0, 1, 1 << b % 3, 10, NONE);
        }
        x.hours(1);
        due("all twelve come in one hour", x.count(3), 0);
        due("beef of all twelve", x.at(1, 1), 4 * (1 + 2 + 4));
        due("water of all twelve", x.at(1, 2), 9 + 120);
    }

    private static void toAnother() {
        DUE.says("goes from a SHIP to another one");
        FleetDelegates x = fleet(0, 9);
        due("the first to itself", x.boat(0, 0, 0, 0, NONE), OUTSIDE);
        due("the last to itself", x.boat(1, 1, 0, 0, NONE), OUTSIDE);
        due("to the last", x.boat(0, 1, 0, 0, NONE), 1);
        due("to the first", x.boat(1, 0, 0, 0, NONE), 1);
    }

    private static void inBoat() {
        DUE.says("with BEEF, WATER (0 .. 900 each, no more than there is)");
        FleetDelegates x = fleet(0, 9);
        for (int v : Due.beyond(0, 900)) {
            due("beef " + v, x.boat(0, 1, v, 0, NONE), OUTSIDE);
            due("water " + v, x.boat(0, 1, 0, v, NONE), OUTSIDE);
        }
        due("0 of each", x.boat(0, 1, 0, 0, NONE), 1);
        due("900 of each", x.boat(0, 1, 900, 900, NONE), 1);
        due("beef left", x.at(0, 1), 8100);
        due("water left", x.at(0, 2), 8100);
        x.ship(0, 1, 20, 30, 0, 0);
        due("one of beef more than there is", x.boat(2, 1, 21, 30, NONE), NOT);
        due("one of water more than there is", x.boat(2, 1, 20, 31, NONE), NOT);
        due("900 where there is less", x.boat(2, 1, 900, 900, NONE), NOT);
        due("all that there is", x.boat(2, 1, 20, 30, NONE), 1);
        due("no beef is left", x.at(2, 1), 0);
        due("no water is left", x.at(2, 2), 0);
        due("0 of none", x.boat(2, 1, 0, 0, NONE), 1);
        due("beef of none", x.boat(2, 1, 1, 0, NONE), NOT);
        due("water of none", x.boat(2, 1, 0, 1, NONE), NOT);
    }

    private static void paperInBoat() {
        DUE.says("and a PAPER that the SHIP KNOWS, or none;");
        FleetDelegates x = fleet(0, 9);
        due("none", x.boat(0, 1, 0, 0, -1), 1);
        due("paper 0 of none", x.boat(0, 1, 0, 0, 0), UNKNOWN);
        x.paper(0, 10);
        x.paper(1, 20);
        for (int p : Due.beyond(-1, 1)) {
            due("paper " + p, x.boat(0, 1, 0, 0, p), UNKNOWN);
        }
        due("one that it knows", x.boat(0, 1, 0, 0, 0), 1);
        due("one that the other one knows", x.boat(0, 1, 0, 0, 1), NOT);
        due("the other one's own", x.boat(1, 0, 0, 0, 1), 1);
        due("it does not know it before the boat comes", x.boat(1, 0, 0, 0, 0), NOT);
        x.hours(1);
        due("nor in the hour before", x.boat(1, 0, 0, 0, 0), NOT);
        x.hours(1);
        due("it knows it when it has come", x.boat(1, 0, 0, 0, 0), 3);
    }

    private static void boatComes() {
        DUE.says("it comes in step 2 of the HOUR that is FAR behind that in which it set out.");
        int[] to = {0, 1, 18, 63};
        int[] far = {0, 1, 2, 7};
        for (int i = 0; i < to.length; i++) {
            FleetDelegates x = fleet(0, to[i]);
            atHour(x, 5);
            due("from hour 5, far " + far[i], x.boat(0, 1, 3, 0, NONE), 5 + far[i]);
            for (int h = 5; h < 5 + far[i]; h++) {
                x.hours(1);
                due("not in hour " + h + ", far " + far[i], x.at(1, 1), 9000 - h - 1);
            }
            x.hours(1);
            due("in its hour, far " + far[i], x.at(1, 1), 9000 - 5 - far[i] - 1 + 3);
        }
        FleetDelegates y = fleet(0, 63);
        atHour(y, 2999);
        due("a boat to hour 3006", y.boat(0, 1, 0, 0, NONE), 3006);
        y.hours(1);
        due("a boat to hour 3007", y.boat(0, 1, 0, 0, NONE), 3007);
        due("they are on the way", y.count(3), 2);
    }

    private static void theHour() {
        DUE.says("(THE HOUR is 0 at first, 3000 at most; then it is one more)");
        FleetDelegates x = fleet(0);
        due("at first", x.count(2), 0);
        due("one more", x.hours(1), 1);
        atHour(x, 2998);
        due("beyond 3000 by one", x.hours(3), OUTSIDE);
        due("2999", x.hours(1), 2999);
        due("beyond 3000", x.hours(2), OUTSIDE);
        due("3000", x.hours(1), 3000);
        due("one more than 3000", x.hours(1), OUTSIDE);
        due("it is", x.count(2), 3000);
        FleetDelegates y = atHour(fleet(0), 2940);
        due("the most hours up to 3000", y.hours(60), 3000);
        due("the most hours beyond it", y.hours(60), OUTSIDE);
    }

    /** Beef, water and will behind an hour, as beef * 10000 + water * 1000 + will. */
    private static int behindAnHour(int beef, int water, int will) {
        FleetDelegates x = alone(300, beef, water, 0, will);
        x.hours(1);
        return x.at(0, 1) * 10000 + x.at(0, 2) * 1000 + x.at(0, 4);
    }

    private static void eatsWhatIsThere() {
        DUE.says("1 EATS: what is there at most; without enough of BEEF WILL is 3 less, without enough of WATER 5 less"
            + " (both, if so; what there is is gone).");
        due("enough, one is left", behindAnHour(4, 4, 50), 11050);
        due("just enough", behindAnHour(3, 3, 50), 50);
        due("one of beef too few", behindAnHour(2, 3, 50), 47);
        due("one of water too few", behindAnHour(3, 2, 50), 45);
        due("one of both too few", behindAnHour(2, 2, 50), 42);
        due("no beef", behindAnHour(0, 4, 50), 1047);
        due("no water", behindAnHour(4, 0, 50), 10045);
        due("nothing", behindAnHour(0, 0, 50), 42);
        due("one of each", behindAnHour(1, 1, 50), 42);
    }

    private static FleetDelegates withBoat(int there, int sent) {
        FleetDelegates x = new FleetDelegates();
        x.ship(0, 100, 9000, 9000, 0, 100);
        x.ship(0, 100, there, there, 0, 100);
        x.boat(0, 1, sent, 0, NONE);
        x.boat(0, 1, 0, sent, NONE);
        x.hours(1);
        return x;
    }

    private static void putIn() {
        DUE.says("BEEF and WATER are put in (9000 at most, the rest is lost);");
        int[][] cases = {{8999, 1, 8999}, {8999, 2, 9000}, {8999, 3, 9000}, {9000, 0, 8999}, {9000, 1, 9000}, {9000, 2, 9000},
            {8101, 900, 9000}, {8100, 900, 8999}, {8102, 900, 9000}, {9000, 900, 9000}};
        for (int[] c : cases) {
            FleetDelegates x = withBoat(c[0], c[1]);
            due("beef of " + c[0] + " with " + c[1], x.at(1, 1), c[2]);
            due("water of " + c[0] + " with " + c[1], x.at(1, 2), c[2]);
        }
        FleetDelegates x = withBoat(9000, 900);
        x.hours(1);
        due("the rest is lost, it eats of 9000", x.at(1, 1) * 10000L + x.at(1, 2), 8999 * 10000L + 8999);
        due("what was sent is gone", x.at(0, 1), 9000 - 900 - 2);
    }

    /** The WILL of a ship with a WANT that reads an OFFER, from 100 on. */
    private static int willBehindReading(int want, int offer, int will) {
        FleetDelegates x = alone(1, 9000, 9000, 0, 100);
        x.ship(0, 1, 9000, 9000, want, will);
        x.paper(0, offer);
        x.boat(0, 1, 0, 0, 0);
        x.hours(1);
        return x.at(1, 4);
    }

    private static void reads() {
        DUE.says("WILL is 5 times (OFFER less WANT and 5 more) less, if that is above 0, 40 at most.");
        int[][] cases = {
            {50, 44, 100}, {50, 45, 100}, {50, 46, 95}, {50, 50, 75}, {50, 52, 65}, {50, 53, 60}, {50, 54, 60}, {50, 100, 60}, {50, 0, 100},
            {0, 0, 75}, {0, 3, 60}, {0, 4, 60}, {0, 100, 60}, {4, 0, 95}, {5, 0, 100}, {6, 0, 100}, {100, 0, 100}, {100, 95, 100}, {100, 96, 95}, {100, 100, 75},
        };
        for (int[] c : cases) {
            due("want " + c[0] + ", offer " + c[1], willBehindReading(c[0], c[1], 100), c[2]);
        }
        due("nothing is read below 0, will 10", willBehindReading(50, 44, 10), 10);
    }

    private static void readsOnce() {
        DUE.says("a PAPER that the SHIP does not KNOW is READ: it KNOWS it from THE HOUR on");
        FleetDelegates x = fleet(0, 9, 9);
        x.set(2, 0);
        atHour(x, 4);
        x.paper(0, 50);
        x.boat(0, 1, 0, 0, 0);
        x.boat(0, 1, 0, 0, 0);
        atHour(x, 6);
        due("two boats with it in one hour", x.at(1, 4), 75);
        due("as of the hour before", x.knows(1, 4), 0);
        due("as of that hour", x.knows(1, 5), 1);
        due("as of the hour behind", x.knows(1, 6), 1);
        x.boat(0, 1, 0, 0, 0);
        x.boat(1, 0, 0, 0, 0);
        x.boat(1, 2, 0, 0, 0);
        x.hours(2);
        due("again", x.at(1, 4), 75);
        due("by the one that wrote it", x.at(0, 4), 100);
        due("by a third one", x.at(2, 4), 75);
        due("from that hour on", x.knows(2, 6), 1);
        due("it knew it from the first on", x.knows(1, 5), 1);
        due("not before", x.knows(2, 5), 0);
    }

    private static void signalsInTheHour() {
        DUE.says("each SHIP that shows one in THE HOUR (as told for it, or YIELDED ones 3) is seen");
        FleetDelegates x = fleet(0, 0);
        x.hours(1);
        due("none told, none seen", x.saw(1, 0), NONE);
        for (int v = 0; v < 3; v++) {
            x.signal(0, v);
            x.hours(1);
            due("told", x.saw(1, 0), v);
            due("not by itself, the other showed none", x.saw(0, 1), NONE);
        }
        x.signal(0, 1);
        x.hours(1);
        x.hours(30);
        due("the last one stays", x.saw(1, 0), 1);
        x.ship(0, 1, 9000, 9000, 0, 29);
        x.signal(2, 2);
        x.hours(1);
        due("told in the hour of its yielding", x.saw(1, 2), 2);
        x.hours(1);
        due("3 in the hour behind", x.saw(1, 2), 3);
    }

    private static void otherShips() {
        DUE.says("by each other SHIP FAR SIGHT at most");
        FleetDelegates x = fleet(0, 0, 3, 24, 27, 4);
        x.signal(0, 2);
        x.hours(1);
        int[] saw = {NONE, 2, 2, 2, 2, NONE};
        for (int by = 1; by < 6; by++) {
            due("ship " + by, x.saw(by, 0), saw[by]);
        }
        FleetDelegates y = new FleetDelegates();
        y.ship(0, 1, 9000, 9000, 0, 29);
        y.ship(0, 1, 9000, 9000, 0, 50);
        y.hours(2);
        due("its own 3 is not seen by itself", y.at(0, 4), 29);
        due("it is by the other one", y.at(1, 4), 40);
        FleetDelegates z = new FleetDelegates();
        z.ship(0, 1, 9000, 9000, 0, 50);
        z.signal(0, 2);
        z.hours(1);
        due("its own 2 is not seen by itself", z.at(0, 4), 50);
    }

    private static void threes() {
        DUE.says("with 3, and if it saw none of that SHIP before, WILL is 10 less;");
        FleetDelegates x = new FleetDelegates();
        for (int s = 0; s < 5; s++) {
            x.ship(0, 1, 9000, 9000, 0, s == 0 ? 100 : 29);
        }
        x.hours(1);
        due("not in the hour of yielding", x.at(0, 4), 100);
        x.hours(1);
        due("four that yielded", x.at(0, 4), 60);
        x.hours(60);
        due("no more of them", x.at(0, 4), 60);
        x.ship(0, 1, 9000, 9000, 0, 29);
        x.hours(1);
        due("a fifth, not yet", x.at(0, 4), 60);
        x.hours(1);
        due("a fifth", x.at(0, 4), 50);
        due("the fifth saw the four", x.at(5, 4), 0);
        FleetDelegates y = new FleetDelegates();
        y.ship(0, 1, 9000, 9000, 0, 100);
        y.ship(0, 1, 9000, 9000, 0, 29);
        y.set(3, 2);
        y.hours(2);
        due("in fog it is not seen", y.at(0, 4), 100);
        y.hours(1);
        due("behind the fog it is the first one", y.at(0, 4), 90);
    }

    private static int willBehindTwo(int will) {
        FleetDelegates x = alone(1, 9000, 9000, 0, 0);
        x.ship(0, 1, 9000, 9000, 0, will);
        x.signal(0, 2);
        x.hours(1);
        return x.at(1, 4);
    }

    private static void twos() {
        DUE.says("with 2 WILL is 4 more.");
        due("will 0", willBehindTwo(0), 4);
        due("will 95", willBehindTwo(95), 99);
        due("will 96", willBehindTwo(96), 100);
        FleetDelegates x = alone(1, 9000, 9000, 0, 50);
        x.ship(0, 1, 9000, 9000, 0, 50);
        for (int v = 0; v < 2; v++) {
            x.signal(0, v);
            x.hours(1);
            due("with " + v, x.at(1, 4), 50);
        }
        for (int i = 1; i <= 3; i++) {
            x.signal(0, 2);
            x.hours(1);
            due("each time, though seen before", x.at(1, 4), 50 + 4 * i);
        }
    }

    private static int yieldsIn(int line, int will) {
        FleetDelegates x = new FleetDelegates();
        if (line != -1) {
            x.set(2, line);
        }
        x.ship(0, 1, 9000, 9000, 0, will);
        x.hours(2);
        return x.at(0, 5);
    }

    private static void line() {
        DUE.says("A SHIP that has not YIELDED, with WILL below LINE (0 .. 100; 30 at first), YIELDS.");
        told(2, 100, 30);
        due("at first, will 30", yieldsIn(-1, 30), NONE);
        due("at first, will 29", yieldsIn(-1, 29), 0);
        due("line 0, will 0", yieldsIn(0, 0), NONE);
        due("line 1, will 0", yieldsIn(1, 0), 0);
        due("line 1, will 1", yieldsIn(1, 1), NONE);
        due("line 100, will 99", yieldsIn(100, 99), 0);
        due("line 100, will 100", yieldsIn(100, 100), NONE);
        FleetDelegates x = fleet(0);
        x.ship(63, 1, 9000, 9000, 0, 99);
        x.hours(3);
        x.set(2, 100);
        x.hours(3);
        due("in the hour that it is", x.at(1, 5), 3);
        due("not the other one", x.at(0, 5), NONE);
        x.set(2, 0);
        x.hours(3);
        x.set(2, 100);
        x.hours(1);
        due("one that has yielded does not again", x.at(1, 5), 3);
        due("there is one", x.count(1), 1);
    }

    private static int hungry(int will) {
        FleetDelegates x = alone(1, 0, 0, 0, will);
        x.hours(1);
        return x.at(0, 4);
    }

    private static int seesThree(int will) {
        FleetDelegates x = new FleetDelegates();
        x.ship(0, 1, 9000, 9000, 0, will);
        x.ship(0, 1, 9000, 9000, 0, 0);
        x.set(2, 1);
        x.hours(1);
        x.set(2, 0);
        x.hours(1);
        return x.at(0, 4);
    }

    private static void willBounds() {
        DUE.says("(WILL is never below 0, nor above 100.)");
        int[][] less = {{0, 0}, {1, 0}, {7, 0}, {8, 0}, {9, 1}};
        for (int[] w : less) {
            due("8 less by hunger, will " + w[0], hungry(w[0]), w[1]);
        }
        int[][] ten = {{1, 0}, {9, 0}, {10, 0}, {11, 1}};
        for (int[] w : ten) {
            due("10 less by a 3, will " + w[0], seesThree(w[0]), w[1]);
        }
        int[][] forty = {{0, 0}, {39, 0}, {40, 0}, {41, 1}};
        for (int[] w : forty) {
            due("40 less by a paper, will " + w[0], willBehindReading(0, 100, w[0]), w[1]);
        }
        for (int will = 96; will <= 100; will++) {
            due("4 more, will " + will, willBehindTwo(will), 100);
        }
        FleetDelegates x = alone(1, 9000, 9000, 0, 0);
        x.ship(0, 1, 0, 0, 0, 1);
        x.signal(0, 2);
        x.hours(1);
        due("not below 0 before 4 more", x.at(1, 4), 4);
        FleetDelegates y = alone(1, 9000, 9000, 0, 0);
        y.ship(0, 1, 9000, 9000, 0, 98);
        y.ship(0, 1, 9000, 9000, 0, 0);
        y.signal(0, 2);
        y.signal(2, 2);
        y.hours(1);
        y.ship(0, 1, 0, 0, 0, 0);
        due("not above 100 by two of them", y.at(1, 4), 100);
        y.set(2, 1);
        y.hours(1);
        y.set(2, 0);
        y.hours(1);
        due("not above 100 before 10 less", y.at(1, 4), 90);
    }

    private static void yieldedGoOn() {
        DUE.says("by these steps, each for all SHIPS by numbers: 1 EATS");
        FleetDelegates x = fleet(0);
        x.ship(0, 200, 5, 9000, 50, 29);
        x.paper(0, 48);
        x.hours(1);
        due("it has yielded", x.at(1, 5), 0);
        x.signal(0, 2);
        x.hours(1);
        due("one that has yielded eats", x.at(1, 1), 1);
        due("it sees", x.saw(1, 0), 2);
        due("and its will is more", x.at(1, 4), 33);
        x.boat(0, 1, 1, 0, 0);
        x.hours(1);
        due("it hungers, and a boat comes", x.at(1, 1), 1);
        due("it reads", x.knows(1, 2), 1);
        due("and its will is less by both", x.at(1, 4), 33 - 3 - 15);
        due("its will above LINE, it was in hour 0", x.at(1, 5), 0);
        due("a boat of its own", x.boat(1, 0, 1, 900, 0), 3);
        due("a paper of its own", x.paper(1, 7), 1);
        due("none of its own signals", x.signal(1, 0), NOT);
    }

    /** A ship that eats, reads and sees a 2 in one hour: what it has then as will, with none of it cut but at the bounds. */
    private static int behindAllSteps(int beef, int will, boolean paper, boolean signal) {
        FleetDelegates x = alone(1, 9000, 9000, 0, 100);
        x.ship(0, 1, beef, 9000, 0, will);
        x.paper(0, 100);
        x.boat(0, 1, 100, 0, paper ? 0 : NONE);
        if (signal) {
            x.signal(0, 2);
        }
        x.hours(1);
        due("beef of the boat", x.at(1, 1), Math.max(0, beef - 1) + 100);
        return x.at(1, 4);
    }

    private static void steps() {
        DUE.says("by these steps, each for all SHIPS by numbers: 1 EATS");
        due("a boat's beef comes behind the eating", behindAllSteps(0, 50, false, false), 47);
        due("beef for that hour", behindAllSteps(1, 50, false, false), 50);
        due("hunger before a 2, will 100", behindAllSteps(0, 100, false, true), 100);
        due("hunger before a 2, will 99", behindAllSteps(0, 99, false, true), 100);
        due("hunger before a 2, will 2", behindAllSteps(0, 2, false, true), 4);
        due("a paper before a 2, will 100", behindAllSteps(1, 100, true, true), 64);
        due("a paper before a 2, will 98", behindAllSteps(1, 98, true, true), 62);
        due("a paper before a 2, will 39", behindAllSteps(1, 39, true, true), 4);
        due("hunger, a paper and a 2, will 41", behindAllSteps(0, 41, true, true), 4);
        due("hunger, a paper and a 2, will 44", behindAllSteps(0, 44, true, true), 5);
        FleetDelegates x = new FleetDelegates();
        x.ship(0, 1, 9000, 9000, 0, 100);
        x.ship(0, 1, 9000, 9000, 0, 26);
        x.ship(0, 1, 9000, 9000, 0, 25);
        x.ship(0, 1, 0, 9000, 0, 30);
        x.ship(0, 1, 0, 9000, 0, 29);
        x.signal(0, 2);
        x.hours(1);
        due("a 2 before yielding, will 26", x.at(1, 5), NONE);
        due("a 2 before yielding, will 25", x.at(2, 5), 0);
        due("hunger and a 2 before yielding, will 30", x.at(3, 5), NONE);
        due("hunger and a 2 before yielding, will 29", x.at(4, 5), NONE);
    }

    /** The will of the second ship behind an hour with a 3 and a 2, the 3 of the first ship or of the last one. */
    private static int byNumbers(int will, boolean threeFirst) {
        FleetDelegates x = new FleetDelegates();
        x.set(3, 1);
        x.ship(0, 1, 9000, 9000, 0, threeFirst ? 29 : 100);
        x.ship(0, 1, 9000, 9000, 0, will);
        x.ship(0, 1, 9000, 9000, 0, threeFirst ? 100 : 29);
        x.hours(1);
        x.signal(threeFirst ? 2 : 0, 2);
        x.hours(1);
        return x.at(1, 4);
    }

    private static void shipsByNumbers() {
        DUE.says("by these steps, each for all SHIPS by numbers: 1 EATS");
        due("3 of ship 0 before 2 of ship 2, will 98", byNumbers(98, true), 92);
        due("2 of ship 0 before 3 of ship 2, will 98", byNumbers(98, false), 90);
        due("3 of ship 0 before 2 of ship 2, will 100", byNumbers(100, true), 94);
        due("2 of ship 0 before 3 of ship 2, will 100", byNumbers(100, false), 90);
        due("3 of ship 0 before 2 of ship 2, will 50", byNumbers(50, true), 44);
        due("2 of ship 0 before 3 of ship 2, will 50", byNumbers(50, false), 44);
    }

    private static void promise1() {
        DUE.says("`FleetDelegates()`: HOUR 0, no SHIPS, empty BOOKS.");
        FleetDelegates x = new FleetDelegates();
        for (int what = 0; what <= 8; what++) {
            due("count(" + what + ")", x.count(what), 0);
        }
        due("ship 0", x.at(0, 0), UNKNOWN);
        x.ship(0, 900, 0, 0, 0, 0);
        x.fellow(0, 0);
        for (int book = 0; book < 2; book++) {
            due("owed by book " + book, x.owed(book, 0, 0), 0);
            due("voices by book " + book, x.voices(book, 0, 3000), 1);
            due("named by book " + book, x.named(book, 0), 1);
            due("word by book " + book, x.word(book, 0, 0), NONE);
        }
        due("carry by the fleet's book", x.vote(0, 1), 1);
    }

    private static void promise2() {
        DUE.says("A SHIP: its number. UNKNOWN: CELL; OUTSIDE; FULL.");
        FleetDelegates x = new FleetDelegates();
        int[] least = {0, 1, 0, 0, 0, 0};
        int[] most = {63, 900, 9000, 9000, 100, 100};
        due("with the least of all", ship(x, least), 0);
        due("with the most of all", ship(x, most), 1);
        for (int i = 0; i < 6; i++) {
            int[] less = least.clone();
            int[] more = most.clone();
            less[i]--;
            more[i]++;
            due("one less than the least, " + i, ship(x, less), i == 0 ? UNKNOWN : OUTSIDE);
            due("one more than the most, " + i, ship(x, more), i == 0 ? UNKNOWN : OUTSIDE);
        }
        due("none of them is there", x.count(0), 2);
        for (int s = 2; s < 6; s++) {
            due("its number", ship(x, most), s);
        }
        due("one more than six", ship(x, most), FULL);
        due("one more than six with the least of all", ship(x, least), FULL);
        due("there are six", x.count(0), 6);
    }

    private static void promise3() {
        DUE.says("SIGHT (what 0), WIND (1), LINE (2), FOG (3; 24 bits): that which it was. OUTSIDE.");
        FleetDelegates x = new FleetDelegates();
        for (int what : Due.beyond(0, 3)) {
            due("what " + what, x.set(what, 0), OUTSIDE);
        }
        int[] most = {7, 3, 100, 0xffffff};
        for (int what = 0; what < 4; what++) {
            x.set(what, most[what]);
        }
        for (int what = 0; what < 4; what++) {
            due("each by itself, " + what, x.set(what, 1), most[what]);
        }
        due("24 bits", x.set(3, 0xffffff), 1);
        due("the 25th bit", x.set(3, 0x1000000), OUTSIDE);
        due("it is as it was", x.set(3, 0), 0xffffff);
    }

    private static void promise4() {
        DUE.says("A PAPER, KNOWN by a SHIP from THE HOUR on (it is not READ): its number. UNKNOWN: SHIP; OUTSIDE; FULL.");
        FleetDelegates x = fleet(0, 0);
        for (int ship : Due.beyond(0, 1)) {
            due("by ship " + ship, x.paper(ship, 0), UNKNOWN);
        }
        x.hours(7);
        due("by the last ship", x.paper(1, 100), 0);
        due("as of hour 6", x.knows(1, 6), 0);
        due("as of hour 7", x.knows(1, 7), 1);
        due("it is not read", x.at(1, 4), 100);
        x.hours(1);
        due("nor later", x.at(1, 4), 100);
        FleetDelegates y = atHour(fleet(0), 3000);
        due("in hour 3000", y.paper(0, 0), 0);
        due("as of hour 2999", y.knows(0, 2999), 0);
        due("as of hour 3000", y.knows(0, 3000), 1);
        for (int p = 1; p < 6; p++) {
            due("one of six", y.paper(0, p % 2 * 100), p);
            due("offer -1", y.paper(0, -1), OUTSIDE);
            due("offer 101", y.paper(0, 101), OUTSIDE);
        }
        due("one more than six", y.paper(0, 100), FULL);
        due("it knows six", y.knows(0, 3000), 63);
    }

    private static void promise5() {
        DUE.says("A BOAT sets out (paper -1: none): the HOUR in which it comes. UNKNOWN: SHIPS, PAPER;");
        FleetDelegates x = fleet(0, 9);
        for (int ship : Due.beyond(0, 1)) {
            due("from ship " + ship, x.boat(ship, 0, 0, 0, NONE), UNKNOWN);
            due("to ship " + ship, x.boat(0, ship, 0, 0, NONE), UNKNOWN);
        }
        due("no boat is on the way", x.count(3), 0);
        due("none of them took any", x.at(0, 1) + x.at(0, 2), 18000);
    }

    private static void promise5Refused() {
        DUE.says("OUTSIDE: to itself, beef, water; NOT: there is not so much, or the SHIP does not KNOW the PAPER; FULL.");
        FleetDelegates x = new FleetDelegates();
        x.ship(0, 1, 11, 12, 0, 100);
        x.ship(9, 1, 9000, 9000, 0, 100);
        x.paper(0, 0);
        x.paper(1, 0);
        due("to itself", x.boat(0, 0, 1, 1, 0), OUTSIDE);
        due("beef -1", x.boat(1, 0, -1, 0, NONE), OUTSIDE);
        due("beef 901", x.boat(1, 0, 901, 0, NONE), OUTSIDE);
        due("water -1", x.boat(1, 0, 0, -1, NONE), OUTSIDE);
        due("water 901", x.boat(1, 0, 0, 901, NONE), OUTSIDE);
        due("beef 12 of 11", x.boat(0, 1, 12, 12, 0), NOT);
        due("water 13 of 12", x.boat(0, 1, 11, 13, 0), NOT);
        due("a paper of the other one", x.boat(0, 1, 11, 12, 1), NOT);
        due("900 of each and its own paper", x.boat(1, 0, 900, 900, 1), 1);
        due("11 of 11, 12 of 12, and its own paper", x.boat(0, 1, 11, 12, 0), 1);
        for (int b = 2; b < 12; b++) {
            due("one of twelve", x.boat(1, 0, 0, 0, NONE), 1);
        }
        due("one more than twelve", x.boat(1, 0, 0, 0, NONE), FULL);
        due("twelve", x.count(3), 12);
    }

    private static void promise6() {
        DUE.says("A SHIP shows a SIGNAL (0 .. 2) in THE HOUR (in none later): that which it was to show; NONE.");
        FleetDelegates x = fleet(0, 0);
        for (int v : Due.beyond(0, 2)) {
            due("signal " + v, x.signal(0, v), OUTSIDE);
        }
        for (int ship : Due.beyond(0, 1)) {
            due("ship " + ship, x.signal(ship, 0), UNKNOWN);
        }
        due("none before", x.signal(0, 0), NONE);
        due("0 before", x.signal(0, 2), 0);
        due("2 before", x.signal(0, 2), 2);
        x.hours(1);
        due("the last one told is shown", x.saw(1, 0), 2);
        due("none in the hour behind", x.signal(0, 0), NONE);
        x.set(3, 0xffffff);
        x.hours(1);
        due("none behind an hour of fog either", x.signal(0, 1), NONE);
        x.set(3, 0);
        x.hours(1);
        due("that of the fog is not shown later", x.saw(1, 0), 1);
        DUE.says("NOT: it has YIELDED.");
        x.ship(63, 1, 9000, 9000, 0, 29);
        due("below LINE, but not yet", x.signal(2, 0), NONE);
        x.hours(1);
        due("it has", x.signal(2, 0), NOT);
        x.hours(60);
        due("it still has", x.signal(2, 2), NOT);
        FleetDelegates y = atHour(fleet(0), 3000);
        due("in hour 3000", y.signal(0, 2), NONE);
    }

    private static void promise7() {
        DUE.says("n HOURS (1 .. 60): THE HOUR. OUTSIDE: also beyond 3000.");
        FleetDelegates x = fleet(0);
        for (int n : Due.beyond(1, 60)) {
            due("hours(" + n + ")", x.hours(n), OUTSIDE);
        }
        due("hours(1)", x.hours(1), 1);
        due("hours(60)", x.hours(60), 61);
        due("it ate in each of them", x.at(0, 1), 9000 - 61);
        atHour(x, 2941);
        due("60 to 3001", x.hours(60), OUTSIDE);
        due("59 to 3000", x.hours(59), 3000);
        for (int n = 1; n <= 60; n += 59) {
            due(n + " beyond 3000", x.hours(n), OUTSIDE);
        }
        due("it ate in no hour beyond", x.at(0, 1), 6000);
    }

    private static void promise8() {
        DUE.says("Of a SHIP: 0 MEN, 1 BEEF, 2 WATER, 3 WANT, 4 WILL, 5 the HOUR in which it YIELDED (NONE), 6 EATS, 7 LASTS. UNKNOWN; OUTSIDE.");
        FleetDelegates x = new FleetDelegates();
        due("none is there", x.at(0, 0), UNKNOWN);
        x.ship(0, 301, 31, 27, 12, 13);
        x.ship(0, 1, 9000, 9000, 0, 0);
        for (int ship : Due.beyond(0, 1)) {
            due("ship " + ship, x.at(ship, 0), UNKNOWN);
        }
        for (int what : Due.beyond(0, 7)) {
            due("what " + what, x.at(0, what), OUTSIDE);
        }
        int[] told = {301, 31, 27, 12, 13, NONE, 4, 6};
        for (int what = 0; what <= 7; what++) {
            due("at(0, " + what + ")", x.at(0, what), told[what]);
        }
        x.hours(1);
        due("yielded in hour 0", x.at(0, 5), 0);
        due("lasts an hour less", x.at(0, 7), 5);
    }

    private static void promise9() {
        DUE.says("AS OF an HOUR (0 .. 3000): PAPERS that a SHIP KNOWS (KNEW by then), by bits.");
        FleetDelegates x = fleet(0, 0);
        for (int hour : Due.beyond(0, 3000)) {
            due("hour " + hour, x.knows(0, hour), OUTSIDE);
        }
        for (int ship : Due.beyond(0, 1)) {
            due("ship " + ship, x.knows(ship, 0), UNKNOWN);
        }
        due("none, hour 0", x.knows(0, 0), 0);
        due("none, hour 3000", x.knows(0, 3000), 0);
        x.paper(0, 0);
        due("one, hour 0", x.knows(0, 0), 1);
        due("one, hour 3000", x.knows(0, 3000), 1);
        for (int p = 1; p < 6; p++) {
            x.paper(0, 0);
            x.boat(0, 1, 0, 0, p);
            x.hours(1);
        }
        due("five of hour 4, hour 4", x.knows(1, 4), 62);
        due("all but the last one, hour 3", x.knows(1, 3), 30);
        due("all six", x.knows(0, 4), 63);
        due("all six, but of the last hour", x.knows(0, 3), 31);
    }

    private static void promise10() {
        DUE.says("What a SHIP LAST SAW from another one (0 .. 3); NONE. UNKNOWN: also one and itself.");
        FleetDelegates x = fleet(0, 0, 0, 0, 0, 0);
        for (int ship : Due.beyond(0, 5)) {
            due("ship " + ship, x.saw(ship, 0), UNKNOWN);
            due("other " + ship, x.saw(0, ship), UNKNOWN);
        }
        for (int s = 0; s < 6; s++) {
            due("itself, " + s, x.saw(s, s), UNKNOWN);
            x.signal(s, s % 3);
        }
        due("none", x.saw(5, 0), NONE);
        x.hours(1);
        for (int s = 0; s < 6; s++) {
            due("the last one saw", x.saw(5, s), s == 5 ? UNKNOWN : s % 3);
            due("the first one saw", x.saw(0, s), s == 0 ? UNKNOWN : s % 3);
        }
    }

    private static void promise11() {
        DUE.says("SHIPS that would have YIELDED behind n HOURS (1 .. 60), if a SHIP READ now an OFFER that no one KNOWS (or none: -1);"
            + " nothing is changed. UNKNOWN; OUTSIDE: also beyond 3000.");
        FleetDelegates x = fleet(0, 0);
        for (int ship : Due.beyond(0, 1)) {
            due("ship " + ship, x.would(ship, -1, 1), UNKNOWN);
        }
        for (int offer : Due.beyond(-1, 100)) {
            due("offer " + offer, x.would(0, offer, 1), OUTSIDE);
        }
        for (int n : Due.beyond(1, 60)) {
            due("hours " + n, x.would(0, -1, n), OUTSIDE);
        }
        due("none, 1 hour", x.would(0, -1, 1), 0);
        due("none, 60 hours", x.would(0, -1, 60), 0);
        x.set(2, 61);
        due("an offer of 0", x.would(1, 0, 1), 0);
        due("an offer of 100", x.would(1, 100, 1), 2);
        x.set(2, 60);
        due("an offer of 100 is 40 less, no more", x.would(1, 100, 1), 0);
        atHour(x, 2940);
        due("60 to 3000", x.would(0, -1, 60), 0);
        x.hours(1);
        due("60 to 3001", x.would(0, -1, 60), OUTSIDE);
        due("59 to 3000", x.would(0, -1, 59), 0);
        atHour(x, 2999);
        due("1 to 3000", x.would(0, -1, 1), 0);
        due("2 to 3001", x.would(0, -1, 2), OUTSIDE);
        x.hours(1);
        due("1 to 3001", x.would(0, -1, 1), OUTSIDE);
        due("nothing is changed", x.at(0, 4) * 10000 + x.count(2), 100 * 10000 + 3000);
    }

    private static void promise11Hours() {
        DUE.says("SHIPS that would have YIELDED behind n HOURS (1 .. 60)");
        FleetDelegates x = new FleetDelegates();
        x.set(0, 0);
        x.ship(0, 100, 59, 9000, 0, 30);
        x.ship(63, 100, 60, 9000, 0, 30);
        due("beef for 59 hours, behind 59", x.would(0, -1, 59), 0);
        due("beef for 59 hours, behind 60", x.would(0, -1, 60), 1);
        x.hours(1);
        due("an hour later, behind 58", x.would(0, -1, 58), 0);
        due("an hour later, behind 59", x.would(0, -1, 59), 1);
        due("an hour later, behind 60", x.would(0, -1, 60), 3);
        x.hours(59);
        due("so it came", x.at(0, 5), 59);
        due("those that yielded are told", x.would(1, -1, 1), 3);
    }

    public static void main(String[] args) {
        cells();
        far();
        sixShips();
        ofShips();
        eats();
        sight();
        fog();
        wind();
        sixPapers();
        twelveBoats();
        twelveBoatsWithinAnHour();
        toAnother();
        inBoat();
        paperInBoat();
        boatComes();
        theHour();
        eatsWhatIsThere();
        putIn();
        reads();
        readsOnce();
        signalsInTheHour();
        otherShips();
        threes();
        twos();
        line();
        willBounds();
        yieldedGoOn();
        steps();
        shipsByNumbers();
        promise1();
        promise2();
        promise3();
        promise4();
        promise5();
        promise5Refused();
        promise6();
        promise7();
        promise8();
        promise9();
        promise10();
        promise11();
        promise11Hours();
        DUE.end();
    }
}
