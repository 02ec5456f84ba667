/** Promises 22 to 24: votes, the least offer, sharing. */
public final class VotesTest {
    private static final Due DUE = new Due("VotesTest");
    private static final int NONE = Due.NONE, OUTSIDE = Due.OUTSIDE;

    private static void due(String call, long got, long want) {
        DUE.due(call, got, want);
    }

    /** Ships far from each other, each with a want and a will. */
    private static FleetDelegates fleet(int... wantsAndWills) {
        FleetDelegates x = new FleetDelegates();
        for (int i = 0; i < wantsAndWills.length; i += 2) {
            x.ship(i % 64, 100, 9000, 9000, wantsAndWills[i], wantsAndWills[i + 1]);
        }
        return x;
    }

    private static void promise22() {
        FleetDelegates x = fleet(50, 100, 50, 91, 50, 90, 50, 40);
        due("22: offer -1", x.vote(-1, 0), OUTSIDE);
        due("22: offer 101", x.vote(101, 1), OUTSIDE);
        due("22: what -1", x.vote(0, -1), OUTSIDE);
        due("22: what 3", x.vote(0, 3), OUTSIDE);
        due("22: 43", x.vote(43, 0), 0);
        due("22: 44, will 40 brings it down by 6", x.vote(44, 0), 1);
        due("22: 48", x.vote(48, 0), 1);
        due("22: 49, will 90", x.vote(49, 0), 2);
        due("22: 50, will 91 by 10 is cut", x.vote(50, 0), 4);
        due("22: more than half of four", x.vote(0, 1), 3);
        due("22: two do not carry", x.vote(49, 2), 0);
        due("22: four carry", x.vote(50, 2), 1);
        due("22: 100", x.vote(100, 2), 1);
        Due.articles(x, 0, "voice 0 9;voice all 2 from 5;carry 3 from 2 to 3;carry 4 from 3 to 3;carry 0 from 6");
        due("22: voices", x.vote(50, 0), 12);
        due("22: half of twelve", x.vote(50, 1), 7);
        due("22: of the others", x.vote(49, 0), 2);
        x.hours(2);
        due("22: carry in 2", x.vote(50, 1), 3);
        x.hours(1);
        due("22: the last carry in 3", x.vote(50, 1), 4);
        x.hours(2);
        due("22: voices in 5", x.vote(50, 0), 8);
        due("22: carry in 5", x.vote(50, 1), 5);
        due("22: one of 2 does not carry", x.vote(44, 2), 0);
        x.hours(1);
        due("22: carry 0", x.vote(0, 2), 1);
        due("22: with no voice", x.vote(0, 0), 0);
    }

    private static void promise22Yielded() {
        FleetDelegates x = fleet(10, 29, 20, 100, 30, 100, 40, 100);
        due("22: before", x.vote(3, 0), 1);
        Due.articles(x, 1, "carry 0;voice all 7");
        due("22: the board's book does nothing", x.vote(3, 1), 3);
        x.hours(1);
        due("22: one that yielded is not for it", x.vote(29, 0), 1);
        due("22: nor are its voices", x.vote(100, 1), 2);
        Due.articles(x, 0, "carry 3");
        due("22: just enough", x.vote(100, 2), 1);
        due("22: one less", x.vote(39, 2), 0);
        FleetDelegates even = fleet(0, 100, 1, 100);
        due("22: half is not more than half", even.vote(0, 2), 0);
        due("22: two are", even.vote(1, 2), 1);
    }

    private static void promise23() {
        FleetDelegates x = fleet(50, 100, 60, 75, 3, 40, 70, 29);
        due("23: bits of no ships", x.least(16), OUTSIDE);
        due("23: -1", x.least(-1), OUTSIDE);
        due("23: least", x.least(Integer.MIN_VALUE), OUTSIDE);
        due("23: ship 0", x.least(1), 50);
        due("23: ship 1", x.least(2), 58);
        due("23: ship 2, not below 0", x.least(4), 0);
        due("23: ship 3", x.least(8), 63);
        due("23: all of 0 and 2", x.least(5), 50);
        due("23: all", x.least(15), 63);
        due("23: three of four carry", x.least(0), 58);
        x.hours(1);
        due("23: one that yielded is", x.least(8), 0);
        due("23: all but it", x.least(15), 58);
        due("23: two of three carry", x.least(0), 50);
        Due.articles(x, 0, "carry 2;voice 2 2");
        due("23: 0 is the least", x.least(0), 0);
        Due.articles(x, 0, "carry 3;voice 2 2");
        due("23: one more", x.least(0), 50);
        Due.articles(x, 0, "carry 4;voice 2 2");
        due("23: and one more", x.least(0), 58);
        Due.articles(x, 0, "carry 5;voice 2 2");
        due("23: none carries", x.least(0), NONE);
        due("23: but a set can be for it", x.least(3), 58);
        FleetDelegates high = fleet(100, 100);
        due("23: 100", high.least(0), 100);
        Due.articles(high, 0, "voice all 0");
        due("23: no voices", high.least(0), NONE);
        Due.articles(high, 0, "carry 0");
        due("23: none needed", high.least(0), 0);
        FleetDelegates low = fleet(1, 100, 0, 100);
        due("23: 1", low.least(0), 1);
        due("23: 0", fleet(0, 100).least(0), 0);
        due("23: no ships", fleet().least(0), NONE);
        due("23: of no ships", fleet().least(1), OUTSIDE);
    }

    private static void promise24() {
        FleetDelegates x = new FleetDelegates();
        x.ship(0, 250, 10, 31, 0, 100);
        x.ship(9, 100, 50, 4, 0, 29);
        x.ship(63, 900, 0, 9000, 0, 100);
        due("24: none", x.sharing(0), OUTSIDE);
        due("24: bits of no ships", x.sharing(9), OUTSIDE);
        due("24: -1", x.sharing(-1), OUTSIDE);
        due("24: alone", x.sharing(1), 3);
        due("24: water is less", x.sharing(2), 4);
        due("24: no beef", x.sharing(4), 0);
        due("24: two, cut", x.sharing(3), 8);
        due("24: two others", x.sharing(6), 5);
        due("24: all", x.sharing(7), 4);
        FleetDelegates beef = new FleetDelegates();
        beef.ship(0, 100, 1, 9, 0, 100);
        beef.ship(0, 100, 2, 9, 0, 100);
        due("24: one of beef too few", beef.sharing(3), 1);
        x.hours(1);
        due("24: those that yielded, too", x.sharing(3), 7);
        x.boat(0, 1, 7, 28, -1);
        due("24: what is on the way is not there", x.sharing(3), 0);
        due("24: no ships", new FleetDelegates().sharing(1), OUTSIDE);
    }

    public static void main(String[] args) {
        promise22();
        promise22Yielded();
        promise23();
        promise24();
        DUE.end();
    }
}
