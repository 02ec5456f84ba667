/** Promises 25 to 35: batteries, slipping, officers, plans, counts. */
public final class SailingTest {
    private static final Due DUE = new Due("SailingTest");
    private static final int NONE = Due.NONE, UNKNOWN = Due.UNKNOWN, OUTSIDE = Due.OUTSIDE, FULL = Due.FULL;

    private static void due(String call, long got, long want) {
        DUE.due(call, got, want);
    }

    private static FleetDelegates fleet(int... cells) {
        FleetDelegates x = new FleetDelegates();
        for (int cell : cells) {
            x.ship(cell, 100, 9000, 9000, 50, 100);
        }
        return x;
    }

    private static void promise25() {
        FleetDelegates x = new FleetDelegates();
        due("25: cell 64", x.battery(64, 8, 0), UNKNOWN);
        due("25: cell -1", x.battery(-1, 0, 1), UNKNOWN);
        due("25: range -1", x.battery(0, -1, 1), OUTSIDE);
        due("25: range 8", x.battery(0, 8, 1), OUTSIDE);
        due("25: guns 0", x.battery(0, 0, 0), OUTSIDE);
        due("25: guns 51", x.battery(0, 0, 51), OUTSIDE);
        due("25: one", x.battery(0, 0, 1), 1);
        due("25: two", x.battery(63, 7, 50), 2);
        due("25: three, in the same cell", x.battery(63, 7, 50), 3);
        due("25: four", x.battery(63, 0, 50), 4);
        due("25: five", x.battery(63, 0, 50), FULL);
        due("25: five with guns 51", x.battery(63, 0, 51), OUTSIDE);
        due("25: five in cell 64", x.battery(64, 0, 51), UNKNOWN);
        x.ship(62, 1, 0, 0, 0, 100);
        due("25: together, of those that reach", x.slip(0, 1), 100);
        FleetDelegates y = fleet(56);
        y.battery(0, 7, 3);
        y.battery(8, 5, 5);
        y.battery(18, 5, 7);
        due("25: far range at most", y.slip(0, 1), 10);
    }

    private static void promise26() {
        FleetDelegates x = fleet(60, 52, 44, 7);
        due("26: no such ship", x.slip(4, 0), UNKNOWN);
        due("26: ship -1", x.slip(-1, 1), UNKNOWN);
        due("26: 0 hours", x.slip(0, 0), OUTSIDE);
        due("26: 25 hours", x.slip(0, 25), OUTSIDE);
        due("26: y 7 at once", x.slip(0, 1), 0);
        due("26: no step before 6", x.slip(1, 6), NONE);
        due("26: a step in 6", x.slip(1, 7), 0);
        due("26: two steps", x.slip(2, 7), NONE);
        due("26: in 6 and 7", x.slip(2, 8), 0);
        due("26: seven steps, six in an ebb", x.slip(3, 18), NONE);
        due("26: the seventh in 18", x.slip(3, 19), 0);
        x.hours(11);
        due("26: a step in 11", x.slip(1, 1), 0);
        due("26: not another in 12", x.slip(2, 7), NONE);
        due("26: in 18", x.slip(2, 8), 0);
        x.hours(1);
        due("26: modulo 12", x.slip(1, 6), NONE);
        x.hours(6);
        due("26: again in 18", x.slip(1, 1), 0);
    }

    private static void promise26Wind() {
        FleetDelegates x = fleet(44);
        x.battery(52, 0, 5);
        x.hours(6);
        due("26: around a cell", x.slip(0, 3), 0);
        due("26: no time for it", x.slip(0, 2), 5);
        x.battery(51, 0, 3);
        x.battery(53, 0, 4);
        int[] within2 = {5, 5, 5, NONE};
        int[] within3 = {4, 3, 3, NONE};
        int[] within4 = {0, 0, 0, NONE};
        for (int wind = 0; wind < 4; wind++) {
            x.set(1, wind);
            due("26: within 2, wind " + wind, x.slip(0, 2), within2[wind]);
            due("26: within 3, wind " + wind, x.slip(0, 3), within3[wind]);
            due("26: within 4, wind " + wind, x.slip(0, 4), within4[wind]);
        }
    }

    private static void promise26Costs() {
        FleetDelegates x = fleet(27);
        x.battery(27, 0, 10);
        x.battery(59, 0, 7);
        due("26: each hour at anchor costs", x.slip(0, 10), 67);
        due("26: around the cell of the end", x.slip(0, 11), 60);
        x.hours(6);
        due("26: its first cell costs nothing, the last one does", x.slip(0, 4), 7);
        FleetDelegates y = fleet(59, 56);
        y.battery(59, 0, 9);
        y.battery(51, 0, 9);
        due("26: away at the end of the hour, once", y.slip(0, 6), 9);
        due("26: y 7 without guns", y.slip(1, 24), 0);
        y.hours(6);
        due("26: a step beside costs nothing", y.slip(0, 1), 0);
        y.battery(58, 0, 4);
        y.battery(60, 0, 3);
        due("26: the least of them", y.slip(0, 2), 3);
        y.set(1, 2);
        due("26: not to greater x", y.slip(0, 24), 4);
        y.hours(5);
        due("26: hours behind 12 without a step", y.slip(0, 1), 4);
        FleetDelegates none = fleet(7, 0);
        none.hours(6);
        none.set(1, 0);
        due("26: not out of cells to greater x", none.slip(0, 6), NONE);
        none.set(1, 2);
        due("26: nor to lesser x", none.slip(1, 6), NONE);
    }

    /** A way up the side, around guns on its row. */
    private static void promise26Up() {
        FleetDelegates x = fleet(40, 0);
        x.battery(48, 0, 50);
        x.battery(41, 0, 50);
        x.battery(49, 0, 50);
        x.battery(50, 0, 50);
        x.hours(6);
        due("26: up, around and down", x.slip(0, 24), 0);
        due("26: six steps are not enough for it", x.slip(0, 6), 50);
        x.set(1, 1);
        due("26: not up against the wind", x.slip(0, 24), 50);
        due("26: down the side", x.slip(1, 14), 50);
    }

    private static void promise26Late() {
        FleetDelegates x = fleet(44);
        for (int i = 0; i < 50; i++) {
            x.hours(60);
        }
        due("26: at hour 3000, which is 0 modulo 12", x.slip(0, 7), NONE);
        due("26: on from there", x.slip(0, 8), 0);
    }

    private static void promise27() {
        FleetDelegates x = fleet(0, 1);
        due("27: no such ship", x.officer(2, 16), UNKNOWN);
        due("27: ship -1", x.officer(-1, 0), UNKNOWN);
        due("27: skills -1", x.officer(0, -1), OUTSIDE);
        due("27: skills 16", x.officer(0, 16), OUTSIDE);
        for (int o = 0; o < 12; o++) {
            due("27: the next", x.officer(o % 2, o), o);
        }
        due("27: a thirteenth", x.officer(0, 0), FULL);
        due("27: a thirteenth with 16", x.officer(0, 16), OUTSIDE);
        due("27: a thirteenth of no ship", x.officer(2, 0), UNKNOWN);
        due("27: twelve", x.count(6), 12);
        due("27: all on board", x.count(7), 0);
    }

    private static void promise28() {
        FleetDelegates x = fleet(0);
        due("28: none of none", x.list(0, true), 0);
        due("28: of none", x.list(1, false), OUTSIDE);
        for (int o = 0; o < 5; o++) {
            x.officer(0, 1);
        }
        due("28: bits of no officers", x.list(32, true), OUTSIDE);
        due("28: and of some", x.list(33, true), OUTSIDE);
        due("28: -1", x.list(-1, true), OUTSIDE);
        due("28: nothing changes", x.count(7), 0);
        due("28: three go", x.list(0b10101, true), 3);
        due("28: one more", x.list(0b10110, true), 1);
        due("28: four", x.count(7), 4);
        due("28: none comes back", x.list(0b01000, false), 0);
        due("28: two come back", x.list(0b01101, false), 2);
        due("28: two", x.count(7), 2);
        due("28: all", x.list(31, true), 3);
        due("28: all come back", x.list(31, false), 5);
        due("28: no bits", x.list(0, false), 0);
    }

    private static void promise29() {
        FleetDelegates x = fleet(0, 1);
        due("29: no such ship", x.needs(2, 16), UNKNOWN);
        due("29: ship -1", x.needs(-1, 0), UNKNOWN);
        due("29: skills -1", x.needs(0, -1), OUTSIDE);
        due("29: skills 16", x.needs(0, 16), OUTSIDE);
        due("29: 15 at first", x.needs(0, 3), 15);
        due("29: those that it did", x.needs(0, 0), 3);
        due("29: 0", x.needs(0, 15), 0);
        due("29: each by itself", x.needs(1, 1), 15);
    }

    private static void promise30() {
        FleetDelegates x = fleet(0, 1, 2);
        due("30: none", x.sailed(), 0);
        x.officer(0, 3);
        x.officer(0, 13);
        x.officer(2, 15);
        due("30: all together", x.sailed(), 5);
        x.needs(1, 0);
        due("30: one that needs none", x.sailed(), 7);
        x.list(1, true);
        due("30: ashore", x.sailed(), 6);
        x.needs(0, 12);
        due("30: what is on board is enough", x.sailed(), 7);
        x.list(4, true);
        due("30: another one ashore", x.sailed(), 3);
        due("30: no ships", new FleetDelegates().sailed(), 0);
    }

    private static void promise31() {
        FleetDelegates x = fleet(0, 1, 2);
        due("31: no such ship", x.asked(3), UNKNOWN);
        due("31: ship -1", x.asked(-1), UNKNOWN);
        due("31: none can be asked", x.asked(0), NONE);
        int[] skills = {1, 2, 4, 8, 3, 12, 6, 15};
        for (int s : skills) {
            x.officer(0, s);
        }
        due("31: it can be", x.asked(0), 0);
        x.officer(1, 15);
        due("31: not of another ship", x.asked(2), NONE);
        x.list(0x1FF, true);
        due("31: the fewest", x.asked(0), 0x80);
        due("31: of another ship", x.asked(1), 0x100);
        x.needs(0, 7);
        due("31: one is fewer than the least number", x.asked(0), 0x80);
        x.needs(0, 3);
        due("31: the least number", x.asked(0), 0x10);
        x.needs(0, 0);
        due("31: nothing needed", x.asked(0), 0);
        x.needs(0, 15);
        FleetDelegates y = fleet(0);
        for (int s : new int[] {8, 6, 9, 1, 2, 4, 3, 12, 7, 10}) {
            y.officer(0, s);
        }
        y.list(0x3FF, true);
        due("31: two, of several the least number", y.asked(0), 0b0000000110);
        y.list(0b10, false);
        due("31: with one on board", y.asked(0), 0b100);
        y.list(0b100, false);
        due("31: with both", y.asked(0), 0);
        FleetDelegates z = fleet(0);
        for (int s : new int[] {1, 2, 4, 7}) {
            z.officer(0, s);
        }
        z.list(15, true);
        due("31: all of them are not enough", z.asked(0), NONE);
        z.needs(0, 5);
        due("31: with one more than it needs", z.asked(0), 8);
        z.officer(0, 15);
        due("31: it can be by a new one", z.asked(0), 0);
    }

    private static void promise31First() {
        FleetDelegates x = fleet(0);
        x.officer(0, 15);
        x.list(1, true);
        due("31: the first one", x.asked(0), 1);
        x.officer(0, 15);
        x.list(2, true);
        due("31: the first one of two alike", x.asked(0), 1);
        x.needs(0, 1);
        x.officer(0, 1);
        due("31: on board", x.asked(0), 0);
    }

    private static void promise32() {
        FleetDelegates x = new FleetDelegates();
        due("32: ask -1", x.ask(-1, 0, 0), UNKNOWN);
        due("32: ask 5", x.ask(5, 21, 0), UNKNOWN);
        due("32: one 21", x.ask(0, 21, 0), OUTSIDE);
        due("32: one -21", x.ask(0, -21, 0), OUTSIDE);
        due("32: two 21", x.ask(0, 0, 21), OUTSIDE);
        due("32: two -21", x.ask(0, 0, -21), OUTSIDE);
        due("32: least and most", x.ask(0, -20, 20), 1);
        due("32: the worse one counts", x.reaches(1, 1), 0);
        due("32: anew", x.ask(0, 20, 20), 1);
        due("32: 20", x.reaches(1, 20), 1);
        due("32: refused, nothing changes", x.ask(0, 0, 21), OUTSIDE);
        due("32: 20 still", x.reaches(1, 20), 1);
        due("32: two is the worse one", x.ask(0, 20, 19) * 10 + x.reaches(1, 20), 10);
        due("32: one is the worse one", x.ask(0, 18, 19) * 10 + x.reaches(1, 19), 10);
        due("32: 18", x.reaches(1, 18), 1);
    }

    private static FleetDelegates asks(int... answers) {
        FleetDelegates x = new FleetDelegates();
        for (int i = 0; i < answers.length; i += 2) {
            x.ask(i / 2, answers[i], answers[i + 1]);
        }
        return x;
    }

    private static void goals(boolean begin) {
        FleetDelegates x = asks(5, 5);
        int promise = begin ? 34 : 33;
        int[][] wrong = {{0, 0}, {6, 0}, {-1, 0}, {1, 101}, {1, -101}, {0, 101}};
        for (int[] w : wrong) {
            due(promise + ": " + w[0] + ", " + w[1], begin ? x.begin(w[0], w[1]) : x.reaches(w[0], w[1]), OUTSIDE);
        }
    }

    private static void promise33() {
        goals(false);
        FleetDelegates x = asks(5, -5, 3, 4, 10, 2, -20, 20, 2, 2);
        due("33: at once", x.reaches(1, 0), 1);
        due("33: below it at once", x.reaches(5, -100), 1);
        int[] most = {3, 5, 7, 7, 7};
        for (int n = 1; n <= 5; n++) {
            due("33: within " + n, x.reaches(n, most[n - 1]), 1);
            due("33: no more within " + n, x.reaches(n, most[n - 1] + 1), 0);
        }
        FleetDelegates all = asks(20, 20, 20, 20, 20, 20, 20, 20, 20, 20);
        due("33: 100", all.reaches(5, 100), 1);
        due("33: each once", all.reaches(4, 81), 0);
        FleetDelegates ones = asks(1, 1, 0, 0, 1, 1);
        due("33: one and one", ones.reaches(2, 2), 1);
        due("33: no more", ones.reaches(5, 3), 0);
        FleetDelegates none = asks(-1, 9, -1, 9, -1, 9, -1, 9, -1, 9);
        due("33: behind no ask", none.reaches(5, 1), 0);
        due("33: at once, before any ask", none.reaches(5, 0), 1);
    }

    private static void promise34() {
        goals(true);
        FleetDelegates x = asks(0, 0, 3, 4, -1, 2, 9, 9, 5, 7);
        due("34: at once", x.begin(5, 0), NONE);
        due("34: below it at once", x.begin(5, -3), NONE);
        due("34: not reached", x.begin(5, 18), NONE);
        due("34: not reached within 1", x.begin(1, 10), NONE);
        due("34: the one", x.begin(1, 9), 3);
        due("34: the least of those", x.begin(1, 3), 1);
        due("34: an ask of nothing, with one left", x.begin(2, 9), 0);
        due("34: no room for it", x.begin(2, 12), 1);
        due("34: the two greatest", x.begin(2, 14), 3);
        due("34: with one of nothing", x.begin(4, 17), 0);
        due("34: not with it", x.begin(3, 17), 1);
        FleetDelegates first = asks(9, 9, 2, 2, 7, 7);
        due("34: the first one once", first.begin(2, 17), NONE);
        due("34: with the next", first.begin(2, 16), 0);
        due("34: of 1", first.begin(1, 1), 0);
        FleetDelegates worse = asks(-2, 20, 4, 4, 5, 5);
        due("34: one that costs", worse.begin(3, 7), 0);
        due("34: too much", worse.begin(3, 8), 1);
        due("34: one that costs leaves no time", worse.begin(2, 7), 1);
    }

    private static void promise35() {
        FleetDelegates x = fleet(0, 1);
        due("35: what -1", x.count(-1), OUTSIDE);
        due("35: what 9", x.count(9), OUTSIDE);
        x.ship(63, 1, 1, 1, 1, 0);
        x.hours(7);
        x.paper(0, 1);
        x.paper(1, 1);
        for (int i = 0; i < 4; i++) {
            x.boat(0, 2, 0, 0, -1);
            x.fellow(0, 0);
        }
        x.fellow(1, 1);
        for (int i = 0; i < 6; i++) {
            x.officer(1, 1);
        }
        x.list(7, true);
        x.write(0, 8);
        int[] counts = {3, 1, 7, 4, 2, 5, 6, 3, 8};
        for (int what = 0; what < counts.length; what++) {
            due("35: count(" + what + ")", x.count(what), counts[what]);
        }
    }

    public static void main(String[] args) {
        promise25();
        promise26();
        promise26Wind();
        promise26Costs();
        promise26Up();
        promise26Late();
        promise27();
        promise28();
        promise29();
        promise30();
        promise31();
        promise31First();
        promise32();
        promise33();
        promise34();
        promise35();
        DUE.end();
    }
}
