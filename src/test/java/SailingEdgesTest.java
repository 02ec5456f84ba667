/** Terms 3 and promises 22 to 35: each sentence that names a boundary, and behind it the tests of that sentence. */
public final class SailingEdgesTest {
    private static final Due DUE = new Due("SailingEdgesTest");
    private static final int NONE = Due.NONE, UNKNOWN = Due.UNKNOWN, OUTSIDE = Due.OUTSIDE, FULL = Due.FULL;

    private static void due(String call, long got, long want) {
        DUE.due(call, got, want);
    }

    private static FleetDelegates ships(int... cells) {
        FleetDelegates x = new FleetDelegates();
        for (int cell : cells) {
            x.ship(cell, 1, 9000, 9000, 50, 100);
        }
        return x;
    }

    /** Ships told by WANT and WILL, one behind the other; LINE is 0. */
    private static FleetDelegates voters(int... wantsAndWills) {
        FleetDelegates x = new FleetDelegates();
        x.set(2, 0);
        for (int i = 0; i < wantsAndWills.length; i += 2) {
            x.ship(63, 1, 9000, 9000, wantsAndWills[i], wantsAndWills[i + 1]);
        }
        return x;
    }

    private static void hoursTo(FleetDelegates x, int hour) {
        while (x.count(2) + 60 <= hour) {
            x.hours(60);
        }
        if (x.count(2) < hour) {
            x.hours(hour - x.count(2));
        }
    }

    // ---- votes

    private static void forIt() {
        DUE.says("is for it, if n is WANT less (100 less WILL) by 10, cut, or more.");
        int[][] cases = {
            {50, 100, 50}, {50, 99, 50}, {50, 91, 50}, {50, 90, 49}, {50, 89, 49}, {50, 81, 49}, {50, 80, 48}, {50, 11, 42},
            {50, 10, 41}, {50, 9, 41}, {50, 1, 41}, {50, 0, 40}, {100, 100, 100}, {100, 90, 99}, {100, 0, 90}, {1, 100, 1},
            {1, 91, 1}, {10, 10, 1}, {10, 1, 1},
        };
        for (int[] c : cases) {
            FleetDelegates x = voters(c[0], c[1]);
            String ship = ", want " + c[0] + ", will " + c[1];
            due("an offer of the least" + ship, x.vote(c[2], 0), 1);
            due("an offer of one less" + ship, x.vote(c[2] - 1, 0), 0);
            due("an offer of 100" + ship, x.vote(100, 0), 1);
            due("an offer of 0" + ship, x.vote(0, 0), 0);
            due("the least" + ship, x.least(1), c[2]);
        }
        int[][] always = {{0, 100}, {0, 0}, {1, 90}, {10, 0}, {9, 9}, {5, 50}};
        for (int[] c : always) {
            FleetDelegates x = voters(c[0], c[1]);
            due("an offer of 0, want " + c[0] + ", will " + c[1], x.vote(0, 0), 1);
            due("the least is 0, want " + c[0] + ", will " + c[1], x.least(1), 0);
        }
    }

    private static void yieldedVotes() {
        DUE.says("A VOTE on an OFFER n: a SHIP that has not YIELDED is for it");
        FleetDelegates x = voters(0, 100, 0, 99, 0, 98);
        x.set(3, 0xffffff);
        due("three", x.vote(0, 0), 3);
        x.set(2, 100);
        due("told, but not yet", x.vote(0, 0), 3);
        x.set(2, 99);
        x.hours(1);
        due("one has", x.vote(0, 0), 2);
        x.set(2, 100);
        x.hours(1);
        due("two have", x.vote(100, 0), 1);
        due("more than half of one", x.vote(0, 1), 1);
    }

    private static void carries() {
        DUE.says("It CARRIES (by the fleet's BOOK in THE HOUR), if VOICES of those for it are CARRY or more.");
        FleetDelegates x = voters(10, 100, 20, 100, 30, 100, 40, 100);
        int[] voices = {0, 1, 2, 3, 4};
        for (int carry = 0; carry <= 5; carry++) {
            Due.articles(x, 0, "carry " + carry);
            for (int n : voices) {
                due("carry " + carry + ", voices " + n, x.vote(10 * n, 2), n >= carry ? 1 : 0);
            }
            due("the least with carry " + carry, x.least(0), carry == 5 ? NONE : 10 * carry);
        }
        Due.articles(x, 0, "voice 0 0;carry 1");
        due("no voices of one that is for it", x.vote(19, 2), 0);
        due("voices of the second", x.vote(20, 2), 1);
        Due.articles(x, 0, "voice all 99");
        due("two of four", x.vote(20, 2), 0);
        due("three of four", x.vote(30, 2), 1);
        Due.articles(x, 0, "carry 1 from 1 to 1;carry 5");
        due("by the last in force in hour 0", x.vote(100, 2), 0);
        Due.articles(x, 0, "carry 5;carry 1 from 1 to 1");
        due("in hour 0", x.vote(100, 2), 0);
        x.hours(1);
        due("in hour 1", x.vote(10, 2), 1);
        x.hours(1);
        due("in hour 2", x.vote(100, 2), 0);
        Due.articles(x, 1, "carry 0");
        due("not by the board's book", x.vote(100, 2), 0);
    }

    private static void leastOffer() {
        DUE.says("LEAST OFFER: the least n 0 .. 100 that CARRIES; for a set of SHIPS: by which all of them are for it (those that YIELDED are).");
        due("no ships", new FleetDelegates().least(0), NONE);
        FleetDelegates none = new FleetDelegates();
        Due.articles(none, 0, "carry 0");
        due("no ships, carry 0", none.least(0), 0);
        due("0", voters(0, 100).least(0), 0);
        due("1", voters(1, 100).least(0), 1);
        due("100", voters(100, 100).least(0), 100);
        due("the second of two", voters(100, 100, 7, 100).least(0), 100);
        due("the second of three", voters(100, 100, 7, 100, 50, 100).least(0), 50);
        due("the fourth of six", voters(100, 100, 7, 100, 50, 100, 60, 100, 70, 100, 0, 100).least(0), 60);
        due("six alike", voters(9, 100, 9, 100, 9, 100, 9, 100, 9, 100, 9, 100).least(0), 9);
        FleetDelegates x = voters(100, 100, 7, 100, 50, 99);
        int[] sets = {100, 7, 100, 50, 100, 50, 100};
        for (int set = 1; set < 8; set++) {
            due("set " + set, x.least(set), sets[set - 1]);
        }
        x.set(2, 100);
        x.hours(1);
        due("a set of one that yielded", x.least(4), 0);
        due("a set with one that yielded", x.least(6), 7);
        x.set(2, 0);
        Due.articles(x, 0, "carry 3");
        due("it does not carry by one that yielded", x.least(0), NONE);
        FleetDelegates y = voters(50, 99, 60, 99);
        y.set(2, 100);
        y.hours(1);
        due("all have yielded", y.least(0), NONE);
        due("a set of all that yielded", y.least(3), 0);
        Due.articles(y, 0, "carry 0");
        due("all have yielded, carry 0", y.least(0), 0);
    }

    private static void promise22() {
        DUE.says("A VOTE on an OFFER (0 .. 100) now: VOICES for it (what 0), CARRY (1), whether it CARRIES (2). OUTSIDE.");
        FleetDelegates x = voters(100, 100);
        for (int offer : Due.beyond(0, 100)) {
            for (int what = 0; what < 3; what++) {
                due("offer " + offer + ", what " + what, x.vote(offer, what), OUTSIDE);
            }
        }
        for (int what : Due.beyond(0, 2)) {
            due("what " + what, x.vote(0, what), OUTSIDE);
        }
        int[] zero = {0, 1, 0};
        int[] hundred = {1, 1, 1};
        for (int what = 0; what < 3; what++) {
            due("offer 0, what " + what, x.vote(0, what), zero[what]);
            due("offer 99, what " + what, x.vote(99, what), zero[what]);
            due("offer 100, what " + what, x.vote(100, what), hundred[what]);
        }
        FleetDelegates none = new FleetDelegates();
        for (int what = 0; what < 3; what++) {
            due("no ships, what " + what, none.vote(100, what), zero[what]);
        }
    }

    private static void promise23() {
        DUE.says("LEAST OFFER that CARRIES (set 0), or by which a set of SHIPS is for it; NONE. OUTSIDE: bits of no SHIPS.");
        FleetDelegates x = new FleetDelegates();
        for (int ships = 0; ships <= 6; ships++) {
            due("the first set beyond of " + ships, x.least(1 << ships), OUTSIDE);
            due("the first with another one beyond of " + ships, x.least((2 << ships) - 1), OUTSIDE);
            due("set -1 of " + ships, x.least(-1), OUTSIDE);
            due("the least number of " + ships, x.least(Integer.MIN_VALUE), OUTSIDE);
            due("the most of " + ships, x.least(Integer.MAX_VALUE), OUTSIDE);
            if (ships > 0) {
                due("the last set of " + ships, x.least((1 << ships) - 1), 10 * (ships - 1));
                due("the last ship alone of " + ships, x.least(1 << ships - 1), 10 * (ships - 1));
            }
            due("set 0 of " + ships, x.least(0), ships == 0 ? NONE : ships / 2 * 10);
            x.ship(0, 1, 0, 0, 10 * ships, 100);
        }
    }

    // ---- stores

    private static int lasts(int men, int beef, int water) {
        FleetDelegates x = new FleetDelegates();
        x.ship(0, men, beef, water, 0, 0);
        return x.at(0, 7);
    }

    private static void lasts() {
        DUE.says("LASTS: how many HOURS a SHIP can eat in full.");
        int[][] cases = {
            {100, 0, 0, 0}, {100, 0, 9000, 0}, {100, 9000, 0, 0}, {100, 1, 1, 1}, {100, 9000, 9000, 9000}, {101, 9000, 9000, 4500},
            {101, 1, 1, 0}, {101, 2, 1, 0}, {101, 1, 2, 0}, {101, 2, 2, 1}, {101, 3, 3, 1}, {101, 4, 3, 1}, {101, 4, 4, 2},
            {900, 9000, 9000, 1000}, {900, 8999, 9000, 999}, {900, 8, 8, 0}, {900, 9, 9, 1}, {900, 17, 18, 1},
        };
        for (int[] c : cases) {
            due("men " + c[0] + ", beef " + c[1] + ", water " + c[2], lasts(c[0], c[1], c[2]), c[3]);
        }
    }

    private static void sharing() {
        DUE.says("SHARING: how many a set can, if all BEEF and all WATER of it are one.");
        FleetDelegates x = new FleetDelegates();
        x.ship(0, 101, 5, 0, 0, 0);
        x.ship(0, 101, 0, 4, 0, 0);
        x.ship(0, 1, 0, 0, 0, 0);
        due("one without water", x.sharing(1), 0);
        due("one without beef", x.sharing(2), 0);
        due("just enough water", x.sharing(3), 1);
        due("one too little water", x.sharing(7), 0);
        x.ship(0, 1, 1, 2, 0, 0);
        due("just enough of both", x.sharing(15), 1);
        due("eats of each rounded up by itself", x.sharing(11), 1);
        FleetDelegates y = new FleetDelegates();
        for (int s = 0; s < 6; s++) {
            y.ship(0, s == 0 ? 900 : 1, 9000, 9000, 0, 0);
        }
        due("six with the most", y.sharing(63), 54000 / 14);
        due("five of them", y.sharing(62), 9000);
        FleetDelegates z = voters(0, 0, 0, 0);
        z.set(2, 1);
        z.hours(1);
        due("those that yielded share, too", z.sharing(3), 8999);
    }

    private static void promise24() {
        DUE.says("SHARING of a set of SHIPS (at least one). OUTSIDE.");
        FleetDelegates x = new FleetDelegates();
        for (int ships = 0; ships <= 6; ships++) {
            due("set 0 of " + ships, x.sharing(0), OUTSIDE);
            due("set -1 of " + ships, x.sharing(-1), OUTSIDE);
            due("the least number of " + ships, x.sharing(Integer.MIN_VALUE), OUTSIDE);
            due("the first set beyond of " + ships, x.sharing(1 << ships), OUTSIDE);
            due("the most of " + ships, x.sharing(Integer.MAX_VALUE), OUTSIDE);
            if (ships > 0) {
                due("one of " + ships, x.sharing(1), 10);
                due("the last one of " + ships, x.sharing(1 << ships - 1), 10);
                due("all of " + ships, x.sharing((1 << ships) - 1), 10);
            }
            x.ship(0, 1, 10, 20, 0, 0);
        }
    }

    // ---- slipping

    private static int slip(int cell, int hour, int n) {
        FleetDelegates x = ships(cell);
        hoursTo(x, hour);
        return x.slip(0, n);
    }

    private static void fourBatteries() {
        DUE.says("BATTERIES (4 at most) are in a CELL, with a RANGE (0 .. 7) and GUNS (1 .. 50).");
        FleetDelegates x = ships(56);
        due("none", x.slip(0, 1), 0);
        for (int range : Due.beyond(0, 7)) {
            due("range " + range, x.battery(0, range, 1), OUTSIDE);
        }
        for (int guns : Due.beyond(1, 50)) {
            due("guns " + guns, x.battery(0, 0, guns), OUTSIDE);
        }
        for (int cell : Due.beyond(0, 63)) {
            due("cell " + cell, x.battery(cell, 0, 1), UNKNOWN);
        }
        int[] guns = {1, 50, 50, 50};
        int hits = 0;
        for (int b = 0; b < 4; b++) {
            due("a battery", x.battery(56, b % 2 == 0 ? 0 : 7, guns[b]), b + 1);
            hits += guns[b];
            due("their guns", x.slip(0, 1), hits);
        }
        due("a fifth", x.battery(56, 0, 1), FULL);
        due("a sixth", x.battery(0, 7, 50), FULL);
        due("the guns of four", x.slip(0, 1), 151);
    }

    private static int hitsFrom(int cell, int range) {
        FleetDelegates x = ships(63);
        x.battery(cell, range, 3);
        return x.slip(0, 1);
    }

    private static void range() {
        DUE.says("costs GUNS of all BATTERIES FAR RANGE at most from the CELL at its end, together");
        due("range 0, in its cell", hitsFrom(63, 0), 3);
        due("range 0, beside it", hitsFrom(62, 0), 0);
        due("range 0, above it", hitsFrom(55, 0), 0);
        due("range 0, the first cell of all", hitsFrom(0, 0), 0);
        for (int range = 1; range <= 7; range++) {
            due("range " + range + ", so far by x", hitsFrom(63 - range, range), 3);
            due("range " + range + ", so far by y", hitsFrom(63 - 8 * range, range), 3);
            due("range " + range + ", so far by both", hitsFrom(63 - 9 * range, range), 3);
            due("range " + (range - 1) + ", one farther by x", hitsFrom(63 - range, range - 1), 0);
            due("range " + (range - 1) + ", one farther by y", hitsFrom(63 - 8 * range, range - 1), 0);
            due("range " + (range - 1) + ", one farther by both", hitsFrom(63 - 9 * range, range - 1), 0);
        }
    }

    private static void ebb() {
        DUE.says("a step only in an HOUR whose number modulo 12 is 6 or more (ebb)");
        for (int hour = 0; hour <= 36; hour++) {
            due("one step in hour " + hour, slip(48, hour, 1), hour % 12 >= 6 ? 0 : NONE);
        }
        due("in hour 2999", slip(48, 2999, 1), 0);
        due("in hour 3000", slip(48, 3000, 1), NONE);
        due("from hour 3000, one too few", slip(48, 3000, 6), NONE);
        due("from hour 3000", slip(48, 3000, 7), 0);
        due("from hour 0, one too few", slip(48, 0, 6), NONE);
        due("from hour 0", slip(48, 0, 7), 0);
        due("six steps of one ebb, one too few", slip(8, 6, 5), NONE);
        due("six steps of one ebb", slip(8, 6, 6), 0);
        due("seven steps are of two ebbs, one too few", slip(0, 6, 12), NONE);
        due("seven steps are of two ebbs", slip(0, 6, 13), 0);
        due("from hour 7, one too few", slip(8, 7, 11), NONE);
        due("from hour 7", slip(8, 7, 12), 0);
    }

    private static void away() {
        DUE.says("it is away, when it is in a CELL with y 7 at the end of an HOUR.");
        for (int x = 0; x < 8; x++) {
            due("y 7 without a step, x " + x, slip(56 + x, 0, 1), 0);
            due("y 6 without a step, x " + x, slip(48 + x, 0, 1), NONE);
            due("y 6 with a step, x " + x, slip(48 + x, 6, 1), 0);
            due("y 5 with a step, x " + x, slip(40 + x, 6, 1), NONE);
            due("y 5 with two, x " + x, slip(40 + x, 6, 2), 0);
        }
        due("y 0 with seven, one too few", slip(0, 0, 18), NONE);
        due("y 0 with seven", slip(0, 0, 19), 0);
    }

    private static void notOutOfCells() {
        DUE.says("or goes one step to the CELL beside it (not out of CELLS)");
        FleetDelegates x = ships(55, 48, 0, 7);
        x.battery(56, 1, 50);
        x.hours(6);
        x.set(1, 3);
        due("from x 7 of y 6 to none of y 7", x.slip(0, 1), NONE);
        due("nor within 24 hours", x.slip(0, 24), NONE);
        x.set(1, 2);
        due("from x 0 of y 6 to none of y 5", x.slip(1, 3), 50);
        x.set(1, 1);
        due("nor with another wind", x.slip(1, 3), 50);
        due("from y 0 to none above it", x.slip(2, 6), NONE);
        due("down from y 0", x.slip(3, 13), 0);
        FleetDelegates y = ships(54);
        y.battery(62, 0, 9);
        y.battery(61, 0, 9);
        y.battery(53, 0, 9);
        y.hours(6);
        due("one step a time, not aslant", y.slip(0, 1), 9);
        due("beside it, then down", y.slip(0, 2), 0);
    }

    private static void againstWind() {
        DUE.says("and none against WIND (opposite to it);");
        int[] toLesserX = {9, 0, 0, NONE};
        int[] toGreaterX = {0, 0, 9, NONE};
        int[] toLesserY = {0, 50, 50, NONE};
        for (int wind = 0; wind < 4; wind++) {
            FleetDelegates x = ships(49);
            x.battery(57, 0, 9);
            x.battery(58, 0, 9);
            x.set(1, wind);
            x.hours(6);
            due("a step to lesser x, wind " + wind, x.slip(0, 2), toLesserX[wind]);
            FleetDelegates y = ships(49);
            y.battery(57, 0, 9);
            y.battery(56, 0, 9);
            y.set(1, wind);
            y.hours(6);
            due("a step to greater x, wind " + wind, y.slip(0, 2), toGreaterX[wind]);
            FleetDelegates z = ships(48);
            z.battery(56, 0, 50);
            z.battery(49, 0, 50);
            z.set(1, wind);
            z.hours(6);
            due("a step to lesser y, wind " + wind, z.slip(0, 5), toLesserY[wind]);
            due("one hour too few for it, wind " + wind, z.slip(0, 4), wind == 3 ? NONE : 50);
        }
        FleetDelegates x = ships(56);
        x.set(1, 3);
        due("it stays with any wind", x.slip(0, 1), 0);
    }

    private static void costs() {
        DUE.says("Each HOUR not yet away costs GUNS");
        FleetDelegates x = ships(48);
        x.battery(48, 0, 7);
        due("hours 0 to 5 in its cell, then away", x.slip(0, 7), 42);
        due("no more by more hours", x.slip(0, 24), 42);
        x.hours(5);
        due("hour 5", x.slip(0, 2), 7);
        x.hours(1);
        due("away at once", x.slip(0, 1), 0);
        x.hours(6);
        due("at flood again", x.slip(0, 7), 42);
        DUE.says("and as much as that CELL's, too, when it is away then.");
        FleetDelegates y = ships(56);
        y.battery(56, 0, 7);
        due("away in its cell", y.slip(0, 1), 7);
        due("it is away, and goes no further", y.slip(0, 24), 7);
        FleetDelegates z = ships(48);
        z.battery(52, 7, 50);
        z.battery(52, 7, 50);
        z.battery(52, 7, 50);
        z.battery(52, 7, 50);
        due("the most guns, each hour and the last", z.slip(0, 7), 1400);
        z.set(1, 3);
        due("none is away", z.slip(0, 24), NONE);
    }

    private static void promise25() {
        DUE.says("A BATTERY: how many. UNKNOWN; OUTSIDE; FULL.");
        FleetDelegates x = ships(56);
        due("cell -1", x.battery(-1, 0, 1), UNKNOWN);
        due("cell 64", x.battery(64, 7, 50), UNKNOWN);
        due("range -1", x.battery(0, -1, 1), OUTSIDE);
        due("range 8", x.battery(63, 8, 50), OUTSIDE);
        due("guns 0", x.battery(0, 0, 0), OUTSIDE);
        due("guns 51", x.battery(63, 7, 51), OUTSIDE);
        due("none of them fires", x.slip(0, 1), 0);
        due("one with the least of all", x.battery(0, 0, 1), 1);
        due("one with the most of all", x.battery(63, 7, 50), 2);
        due("it fires", x.slip(0, 1), 50);
        due("a third", x.battery(56, 0, 1), 3);
        due("a fourth", x.battery(56, 0, 2), 4);
        due("one more than four", x.battery(56, 0, 4), FULL);
        due("four fire", x.slip(0, 1), 53);
    }

    private static void withinHours() {
        DUE.says("SLIP of a SHIP within n HOURS (1 .. 24): from its CELL, in each HOUR from THE HOUR on, it stays,");
        FleetDelegates x = ships(56);
        x.battery(56, 0, 1);
        for (int n = 1; n <= 24; n++) {
            due("it stays, within " + n, x.slip(0, n), 1);
        }
        DUE.says("LEAST HITS of all ways that are away within n HOURS; none.");
        FleetDelegates y = ships(48);
        y.battery(48, 0, 1);
        y.battery(56, 0, 50);
        y.battery(57, 0, 10);
        for (int n = 1; n <= 24; n++) {
            due("at n " + n, y.slip(0, n), n < 7 ? NONE : n == 7 ? 56 : n == 8 ? 16 : 6);
        }
    }

    private static void promise26() {
        DUE.says("LEAST HITS of a SLIP within n HOURS; NONE. UNKNOWN; OUTSIDE.");
        FleetDelegates x = ships(56, 48, 0, 0, 0, 63);
        for (int ship : Due.beyond(0, 5)) {
            due("ship " + ship, x.slip(ship, 1), UNKNOWN);
        }
        for (int n : Due.beyond(1, 24)) {
            due("n " + n, x.slip(0, n), OUTSIDE);
        }
        due("n 1", x.slip(0, 1), 0);
        due("n 24", x.slip(0, 24), 0);
        due("the last ship", x.slip(5, 1), 0);
        due("none", x.slip(2, 18), NONE);
        due("the most hours", x.slip(2, 24), 0);
        due("of no ships", new FleetDelegates().slip(0, 1), UNKNOWN);
    }

    // ---- officers

    private static void twelveOfficers() {
        DUE.says("OFFICERS are numbered from 0, 12 at most, each of a SHIP, with SKILLS (bits 0 .. 3), on board or ASHORE.");
        FleetDelegates x = ships(0, 0, 0, 0, 0, 0);
        for (int skills : Due.beyond(0, 15)) {
            due("skills " + skills, x.officer(0, skills), OUTSIDE);
        }
        for (int ship : Due.beyond(0, 5)) {
            due("of ship " + ship, x.officer(ship, 15), UNKNOWN);
        }
        due("no officer, none is sailed", x.sailed(), 0);
        for (int o = 0; o < 12; o++) {
            due("before it there are", x.count(6), o);
            due("it is not there", x.list(1 << o, true), OUTSIDE);
            due("an officer", x.officer(o % 6, o < 6 ? 0 : 15), o);
            due("on board", x.count(7), 0);
        }
        due("a thirteenth", x.officer(0, 15), FULL);
        due("a fourteenth", x.officer(5, 0), FULL);
        due("there are", x.count(6), 12);
        due("the thirteenth is not there", x.list(4096, true), OUTSIDE);
        due("all can be sailed", x.sailed(), 63);
        due("the last one goes ashore", x.list(2048, true), 1);
        due("all but the last can be sailed", x.sailed(), 31);
        due("the last one is asked back", x.asked(5), 2048);
        due("all others go ashore", x.list(4095, true), 11);
        for (int s = 0; s < 6; s++) {
            due("asked back of ship " + s, x.asked(s), 64 << s);
        }
    }

    private static void needs() {
        DUE.says("A SHIP NEEDS SKILLS (bits; 15 at first): it CAN BE SAILED, if those on board have them all together.");
        for (int skills = 0; skills < 16; skills++) {
            FleetDelegates x = ships(0, 0);
            x.officer(0, skills);
            x.officer(1, 15 & ~skills);
            due("at first, with skills " + skills, x.sailed(), skills == 15 ? 1 : skills == 0 ? 2 : 0);
            for (int need = 0; need < 16; need++) {
                due("they were", x.needs(0, need), need == 0 ? 15 : need - 1);
                due("skills " + skills + " for " + need, x.sailed() & 1, (need & ~skills) == 0 ? 1 : 0);
            }
        }
        FleetDelegates y = ships(0, 0);
        for (int k = 0; k < 4; k++) {
            due("not yet", y.sailed(), 0);
            y.officer(0, 1 << k);
        }
        due("all together", y.sailed(), 1);
        y.list(8, true);
        due("one of them ashore", y.sailed(), 0);
        y.needs(0, 7);
        due("without the skill of that one", y.sailed(), 1);
        y.needs(1, 0);
        due("no skills, no officers", y.sailed(), 3);
    }

    private static void askedBack() {
        DUE.says("ASKED BACK: the fewest OFFICERS of it that are ASHORE, with whom it could; of several sets the least number; none.");
        FleetDelegates x = ships(0, 0);
        due("no officers", x.asked(0), NONE);
        x.needs(0, 0);
        due("no officers, none needed", x.asked(0), 0);
        x.needs(0, 15);
        int[] skills = {1, 2, 4, 8, 3, 12, 5, 10, 15};
        int[] asked = {NONE, NONE, NONE, 15, 28, 48, 48, 48, 256};
        for (int o = 0; o < skills.length; o++) {
            x.officer(0, skills[o]);
            x.list(1 << o, true);
            due("with officers to " + o, x.asked(0), asked[o]);
        }
        x.officer(0, 15);
        due("with one on board", x.asked(0), 0);
        x.list(512, true);
        due("of two alike the least number", x.asked(0), 256);
        x.needs(0, 1);
        due("of five that have it", x.asked(0), 1);
        x.needs(0, 8);
        due("of another skill", x.asked(0), 8);
        x.needs(0, 9);
        due("one that has both", x.asked(0), 256);
        x.needs(0, 0);
        due("none needed", x.asked(0), 0);
        due("those of another ship are none", x.asked(1), NONE);
        x.needs(0, 15);
        x.list(7, false);
        due("three on board, one is missing", x.asked(0), 8);
        x.list(8, false);
        due("four on board", x.asked(0), 0);
    }

    private static void askedBackOfTwelve() {
        DUE.says("of several sets the least number; none.");
        FleetDelegates x = ships(0);
        for (int o = 0; o < 12; o++) {
            x.officer(0, 1 << o / 3);
        }
        due("all on board", x.asked(0), 0);
        x.list(4095, true);
        due("the first of each three", x.asked(0), 1 | 8 | 64 | 512);
        x.list(4095, false);
        x.list(4032, true);
        due("two kinds ashore", x.asked(0), 64 | 512);
        x.list(3584, false);
        x.list(4095 & ~2048, true);
        due("the last one on board", x.asked(0), 1 | 8 | 64);
        FleetDelegates y = ships(0);
        for (int o = 0; o < 12; o++) {
            y.officer(0, o == 11 ? 8 : o == 10 ? 6 : o == 0 ? 1 : 0);
        }
        y.list(4095, true);
        due("those without skills are not asked", y.asked(0), 1 | 1024 | 2048);
        y.needs(0, 6);
        due("one alone", y.asked(0), 1024);
        y.list(1024, false);
        due("it is back", y.asked(0), 0);
    }

    private static void promise27() {
        DUE.says("An OFFICER on board: the number. UNKNOWN; OUTSIDE; FULL.");
        FleetDelegates x = new FleetDelegates();
        due("of no ship", x.officer(0, 0), UNKNOWN);
        x.ship(0, 1, 0, 0, 0, 0);
        due("skills 0", x.officer(0, 0), 0);
        due("skills 15", x.officer(0, 15), 1);
        due("skills 16", x.officer(0, 16), OUTSIDE);
        due("on board", x.sailed() * 10 + x.count(7), 10);
    }

    private static void promise28() {
        DUE.says("A set of OFFICERS (bits) goes ASHORE (is true), or comes back: how many did. OUTSIDE: bits of no OFFICERS.");
        FleetDelegates x = ships(0);
        due("none of none", x.list(0, true) + x.list(0, false), 0);
        due("one of none", x.list(1, true), OUTSIDE);
        due("one of none, back", x.list(1, false), OUTSIDE);
        for (int o = 1; o <= 12; o++) {
            x.officer(0, 15);
            int all = (1 << o) - 1;
            for (int set : Due.beyond(0, all)) {
                due("set " + set + " of " + o, x.list(set, true), OUTSIDE);
                due("set " + set + " of " + o + ", back", x.list(set, false), OUTSIDE);
            }
            due("none of " + o, x.list(0, true), 0);
            due("all of " + o, x.list(all, true), o);
            due("again", x.list(all, true), 0);
            due("ashore", x.count(7), o);
            due("none back of " + o, x.list(0, false), 0);
            due("all but the last back", x.list(all >> 1, false), o - 1);
            due("all back, but one is left", x.list(all, false), 1);
            due("again, back", x.list(all, false), 0);
            due("none ashore", x.count(7), 0);
        }
    }

    private static void promise29() {
        DUE.says("A SHIP NEEDS SKILLS: those that it did. UNKNOWN; OUTSIDE.");
        FleetDelegates x = ships(0, 0, 0, 0, 0, 0);
        for (int ship : Due.beyond(0, 5)) {
            due("ship " + ship, x.needs(ship, 0), UNKNOWN);
        }
        for (int skills : Due.beyond(0, 15)) {
            due("skills " + skills, x.needs(0, skills), OUTSIDE);
        }
        for (int s = 0; s < 6; s++) {
            due("at first, ship " + s, x.needs(s, s == 5 ? 15 : s), 15);
        }
        for (int s = 0; s < 6; s++) {
            due("each by itself, ship " + s, x.needs(s, 0), s == 5 ? 15 : s);
            due("0 before, ship " + s, x.needs(s, 15), 0);
        }
        due("of no ships", new FleetDelegates().needs(0, 0), UNKNOWN);
    }

    private static void promises30And31() {
        DUE.says("SHIPS that CAN BE SAILED, by bits.");
        FleetDelegates x = new FleetDelegates();
        due("of no ships", x.sailed(), 0);
        for (int s = 0; s < 6; s++) {
            x.ship(0, 1, 0, 0, 0, 0);
            due("not without officers", x.sailed(), (1 << s) - 1);
            x.needs(s, 0);
            due("that needs none", x.sailed(), (2 << s) - 1);
        }
        DUE.says("ASKED BACK, by bits; 0: it can be; NONE. UNKNOWN.");
        due("of no ships", new FleetDelegates().asked(0), UNKNOWN);
        for (int ship : Due.beyond(0, 5)) {
            due("ship " + ship, x.asked(ship), UNKNOWN);
        }
        due("the first", x.asked(0), 0);
        due("the last", x.asked(5), 0);
        x.needs(5, 1);
        due("the last, it cannot be", x.asked(5), NONE);
    }

    // ---- plans

    private static FleetDelegates asks(int... answers) {
        FleetDelegates x = new FleetDelegates();
        for (int i = 0; i + 1 < answers.length; i += 2) {
            x.ask(i / 2, answers[i], answers[i + 1]);
        }
        return x;
    }

    private static void promise32() {
        DUE.says("ASKS 0 .. 4, each with two answers, by which STANDING (0 at first) changes (-20 .. 20 each; 0 at first).");
        FleetDelegates x = new FleetDelegates();
        for (int ask : Due.beyond(0, 4)) {
            due("ask " + ask, x.ask(ask, 0, 0), UNKNOWN);
        }
        for (int v : Due.beyond(-20, 20)) {
            due("one " + v, x.ask(0, v, 0), OUTSIDE);
            due("two " + v, x.ask(0, 0, v), OUTSIDE);
        }
        due("standing 0 at first", x.reaches(1, 0) * 10 + x.reaches(5, 1), 10);
        for (int ask = 0; ask < 5; ask++) {
            due("the least of " + ask, x.ask(ask, -20, -20), 1);
            due("the most of " + ask, x.ask(ask, 20, 20), 1);
            due("one and the other of " + ask, x.ask(ask, -20, 20), 1);
        }
        due("by the worse ones none is reached", x.reaches(5, 1), 0);
        for (int ask = 0; ask < 5; ask++) {
            x.ask(ask, 20, 20);
            due("so many more", x.reaches(5, 20 * ask + 20), 1);
            due("no more", x.reaches(5, 20 * ask + 21 > 100 ? 100 : 20 * ask + 21), ask == 4 ? 1 : 0);
        }
    }

    private static void promise32Answers() {
        DUE.says("Answers of an ASK: 1. UNKNOWN; OUTSIDE.");
        FleetDelegates x = new FleetDelegates();
        due("ask -1", x.ask(-1, 20, 20), UNKNOWN);
        due("ask 5", x.ask(5, 20, 20), UNKNOWN);
        due("one -21", x.ask(0, -21, 20), OUTSIDE);
        due("one 21", x.ask(0, 21, 20), OUTSIDE);
        due("two -21", x.ask(4, 20, -21), OUTSIDE);
        due("two 21", x.ask(4, 20, 21), OUTSIDE);
        due("none of them reaches 1", x.reaches(5, 1), 0);
        due("the first", x.ask(0, 20, 20), 1);
        due("the last", x.ask(4, 20, 20), 1);
        due("both reach 40", x.reaches(2, 40), 1);
        due("the first one begins", x.begin(2, 40), 0);
        due("told again", x.ask(0, -20, 20), 1);
        due("the first that does not hinder the last one", x.begin(2, 20), 1);
        due("40 no more", x.reaches(5, 40), 0);
    }

    private static void reachesWithin() {
        DUE.says("Within n ASKS (1 .. 5, each once at most) the cabin REACHES g");
        FleetDelegates x = asks(20, 20, 20, 20, 20, 20, 20, 20, 20, 20);
        for (int n = 1; n <= 5; n++) {
            due("just so much by " + n, x.reaches(n, 20 * n), 1);
            due("one less by " + n, x.reaches(n, 20 * n - 1), 1);
            if (n < 5) {
                due("one more by " + n, x.reaches(n, 20 * n + 1), 0);
            }
        }
        FleetDelegates y = asks(0, 0, 0, 0, 20, 20);
        due("one ask once", y.reaches(5, 20), 1);
        due("not twice", y.reaches(5, 21), 0);
        FleetDelegates z = asks(7, 3, -20, 20, 4, 9, -1, 0, 0, 5);
        due("by the worse of both answers", z.reaches(2, 7), 1);
        due("no more than that", z.reaches(2, 8), 0);
        due("the best one first", z.reaches(1, 4), 1);
        due("no more by one", z.reaches(1, 5), 0);
        due("others are left out", z.reaches(5, 7), 1);
        due("no more by all", z.reaches(5, 8), 0);
    }

    private static void atOnce() {
        DUE.says("if it can ask so that STANDING is g or more behind some ASK (or at once), whatever is answered each time.");
        FleetDelegates x = asks(-20, -20, -20, -20, -20, -20, -20, -20, -20, -20);
        for (int n = 1; n <= 5; n++) {
            due("0 at once", x.reaches(n, 0), 1);
            due("below 0 at once", x.reaches(n, -100), 1);
            due("1 never", x.reaches(n, 1), 0);
            due("0 at once is begun by none", x.begin(n, 0), NONE);
            due("below 0 is begun by none", x.begin(n, -100), NONE);
            due("1 is begun by none", x.begin(n, 1), NONE);
        }
        FleetDelegates y = asks(5, 5, -20, -20);
        due("behind the first one", y.reaches(2, 5), 1);
        due("begun so", y.begin(2, 5), 0);
    }

    private static void promise33() {
        DUE.says("Whether g (-100 .. 100) is REACHED within n ASKS: 1, 0. OUTSIDE.");
        FleetDelegates x = asks(20, 20, 20, 20, 20, 20, 20, 20, 20, 20);
        for (int n : Due.beyond(1, 5)) {
            due("n " + n, x.reaches(n, 0), OUTSIDE);
        }
        for (int g : Due.beyond(-100, 100)) {
            due("g " + g, x.reaches(5, g), OUTSIDE);
        }
        due("g -100", x.reaches(1, -100), 1);
        due("g 100", x.reaches(5, 100), 1);
        due("g 100 within 4", x.reaches(4, 100), 0);
        x.ask(0, 20, 19);
        due("g 100 with one less", x.reaches(5, 100), 0);
        due("g 99", x.reaches(5, 99), 1);
    }

    private static void promise34() {
        DUE.says("The least ASK with which to begin so; NONE: it is not REACHED, or at once. OUTSIDE.");
        FleetDelegates x = asks(0, 0, 0, 0, 0, 0, 0, 0, 20, 20);
        for (int n : Due.beyond(1, 5)) {
            due("n " + n, x.begin(n, 1), OUTSIDE);
        }
        for (int g : Due.beyond(-100, 100)) {
            due("g " + g, x.begin(5, g), OUTSIDE);
        }
        due("the last one alone", x.begin(1, 20), 4);
        due("the first of two, though it is nothing", x.begin(2, 20), 0);
        due("one more is not reached", x.begin(2, 21), NONE);
        due("g 1", x.begin(1, 1), 4);
        due("g 0, at once", x.begin(1, 0), NONE);
        due("g -100", x.begin(5, -100), NONE);
        due("g 100, not reached", x.begin(5, 100), NONE);
        x.ask(0, -1, -1);
        due("the first one is less, the second nothing", x.begin(2, 20), 1);
        due("one less is reached with the first one", x.begin(2, 19), 0);
        FleetDelegates y = asks(20, 20, 20, 20, 20, 20, 20, 20, 20, 20);
        due("g 100", y.begin(5, 100), 0);
        due("g 100 within 4", y.begin(4, 100), NONE);
        due("g 80 within 4", y.begin(4, 80), 0);
        due("g 81 within 4", y.begin(4, 81), NONE);
        y.ask(0, 19, 20);
        due("g 100 with one less", y.begin(5, 100), NONE);
        due("g 99", y.begin(5, 99), 0);
        due("g 80 within 4 without it", y.begin(4, 80), 1);
    }

    private static void promise35() {
        DUE.says("0 SHIPS, 1 those that YIELDED, 2 THE HOUR, 3 BOATS on the way, 4 PAPERS, 5 FELLOWS, 6 OFFICERS, 7 those ASHORE,"
            + " 8 bytes of THE TEXT. OUTSIDE.");
        FleetDelegates x = new FleetDelegates();
        for (int what : Due.beyond(0, 8)) {
            due("what " + what, x.count(what), OUTSIDE);
        }
        for (int what = 0; what <= 8; what++) {
            due("new, count(" + what + ")", x.count(what), 0);
        }
        x.set(2, 100);
        for (int s = 0; s < 6; s++) {
            x.ship(0, 1, 9, 9, 0, s == 0 ? 100 : 99);
        }
        for (int i = 0; i < 17; i++) {
            x.paper(0, 0);
            x.fellow(0, 0);
            x.officer(0, 0);
        }
        x.set(0, 0);
        x.set(3, 0xffffff);
        hoursTo(x, 4);
        for (int i = 0; i < 13; i++) {
            x.boat(0, 1, 0, 0, NONE);
        }
        x.list(4095, true);
        for (int i = 0; i < 26; i++) {
            x.write(0, 8);
        }
        int[] full = {6, 5, 4, 12, 6, 16, 12, 12, 200};
        for (int what = 0; what <= 8; what++) {
            due("full, count(" + what + ")", x.count(what), full[what]);
        }
        x.hours(1);
        x.list(2, false);
        x.erase();
        due("boats that came", x.count(3), 0);
        due("ashore, one came back", x.count(7), 11);
        due("bytes, erased", x.count(8), 0);
        due("full, what 9", x.count(9), OUTSIDE);
        hoursTo(x, 3000);
        due("the hour", x.count(2), 3000);
        due("all have yielded by hunger", x.count(1), 6);
    }

    public static void main(String[] args) {
        forIt();
        yieldedVotes();
        carries();
        leastOffer();
        promise22();
        promise23();
        lasts();
        sharing();
        promise24();
        fourBatteries();
        range();
        ebb();
        away();
        notOutOfCells();
        againstWind();
        costs();
        promise25();
        withinHours();
        promise26();
        twelveOfficers();
        needs();
        askedBack();
        askedBackOfTwelve();
        promise27();
        promise28();
        promise29();
        promises30And31();
        promise32();
        promise32Answers();
        reachesWithin();
        atOnce();
        promise33();
        promise34();
        promise35();
        DUE.end();
    }
}
