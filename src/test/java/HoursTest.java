/** Promises 1 to 11: ships, papers, boats, signals and hours. */
public final class HoursTest {
    private static final Due DUE = new Due("HoursTest");
    private static final int NONE = Due.NONE, UNKNOWN = Due.UNKNOWN, OUTSIDE = Due.OUTSIDE, NOT = Due.NOT, FULL = Due.FULL;

    private static void due(String call, long got, long want) {
        DUE.due(call, got, want);
    }

    /** Ships that lack nothing for long: each eats one, and reads nothing by itself. */
    private static FleetDelegates fleet(int... cells) {
        FleetDelegates x = new FleetDelegates();
        for (int cell : cells) {
            x.ship(cell, 100, 5000, 5000, 50, 100);
        }
        return x;
    }

    private static void promise1() {
        FleetDelegates x = new FleetDelegates();
        for (int what = 0; what <= 8; what++) {
            due("1: new, count(" + what + ")", x.count(what), 0);
        }
        due("1: set(0, 0)", x.set(0, 0), 3);
        due("1: set(1, 0)", x.set(1, 0), 0);
        due("1: set(2, 0)", x.set(2, 0), 30);
        due("1: set(3, 0)", x.set(3, 0), 0);
        x.ship(0, 100, 0, 0, 0, 0);
        due("1: fleet's book", x.owed(0, 0, 0), 0);
        due("1: board's book", x.owed(1, 0, 0), 0);
        due("1: one voice without articles", x.voices(1, 0, 0), 1);
        FleetDelegates other = new FleetDelegates();
        due("1: another object", other.count(0), 0);
    }

    private static void promise2() {
        FleetDelegates x = new FleetDelegates();
        due("2: cell -1", x.ship(-1, 0, 0, 0, 0, 0), UNKNOWN);
        due("2: cell 64", x.ship(64, 1, 0, 0, 0, 0), UNKNOWN);
        due("2: men 0", x.ship(0, 0, 0, 0, 0, 0), OUTSIDE);
        due("2: men 901", x.ship(0, 901, 0, 0, 0, 0), OUTSIDE);
        due("2: beef -1", x.ship(0, 1, -1, 0, 0, 0), OUTSIDE);
        due("2: beef 9001", x.ship(0, 1, 9001, 0, 0, 0), OUTSIDE);
        due("2: water -1", x.ship(0, 1, 0, -1, 0, 0), OUTSIDE);
        due("2: water 9001", x.ship(0, 1, 0, 9001, 0, 0), OUTSIDE);
        due("2: want -1", x.ship(0, 1, 0, 0, -1, 0), OUTSIDE);
        due("2: want 101", x.ship(0, 1, 0, 0, 101, 0), OUTSIDE);
        due("2: will -1", x.ship(0, 1, 0, 0, 0, -1), OUTSIDE);
        due("2: will 101", x.ship(0, 1, 0, 0, 0, 101), OUTSIDE);
        due("2: none of them is one", x.count(0), 0);
        due("2: least", x.ship(0, 1, 0, 0, 0, 0), 0);
        due("2: most", x.ship(63, 900, 9000, 9000, 100, 100), 1);
        for (int s = 2; s < 6; s++) {
            due("2: the next", x.ship(7, 10 * s, 5, 6, 7, 8), s);
        }
        due("2: a seventh", x.ship(7, 1, 0, 0, 0, 0), FULL);
        due("2: a seventh with men 0", x.ship(7, 0, 0, 0, 0, 0), OUTSIDE);
        due("2: a seventh in cell 64", x.ship(64, 1, 0, 0, 0, 0), UNKNOWN);
        due("2: still six", x.count(0), 6);
        int[] told = {50, 5, 6, 7, 8};
        for (int what = 0; what < 5; what++) {
            due("2: at(5, " + what + ")", x.at(5, what), told[what]);
        }
    }

    private static void promise3() {
        FleetDelegates x = new FleetDelegates();
        int[] first = {3, 0, 30, 0};
        int[] most = {7, 3, 100, (1 << 24) - 1};
        for (int what = 0; what < 4; what++) {
            due("3: -1 for " + what, x.set(what, -1), OUTSIDE);
            due("3: one too many for " + what, x.set(what, most[what] + 1), OUTSIDE);
            due("3: first " + what, x.set(what, most[what]), first[what]);
            due("3: then " + what, x.set(what, 0), most[what]);
            due("3: last " + what, x.set(what, 1), 0);
        }
        due("3: what -1", x.set(-1, 0), OUTSIDE);
        due("3: what 4", x.set(4, 0), OUTSIDE);
    }

    private static void promise4() {
        FleetDelegates x = fleet(0, 9);
        due("4: no such ship", x.paper(2, 101), UNKNOWN);
        due("4: ship -1", x.paper(-1, 0), UNKNOWN);
        due("4: offer -1", x.paper(0, -1), OUTSIDE);
        due("4: offer 101", x.paper(0, 101), OUTSIDE);
        x.hours(3);
        due("4: the first", x.paper(1, 100), 0);
        due("4: it is not read", x.at(1, 4), 100);
        due("4: not known before", x.knows(1, 2), 0);
        due("4: known from the hour on", x.knows(1, 3), 1);
        due("4: by that ship alone", x.knows(0, 3000), 0);
        for (int p = 1; p < 6; p++) {
            due("4: the next", x.paper(0, 0), p);
        }
        due("4: a seventh", x.paper(0, 0), FULL);
        due("4: a seventh of 101", x.paper(0, 101), OUTSIDE);
        due("4: a seventh by no ship", x.paper(2, 0), UNKNOWN);
        due("4: what each knows", x.knows(0, 3) * 100 + x.knows(1, 3), 6201);
        due("4: six", x.count(4), 6);
    }

    private static void promise5Refusals() {
        FleetDelegates x = fleet(0, 9);
        x.paper(1, 10);
        due("5: from -1", x.boat(-1, 0, 901, 0, -1), UNKNOWN);
        due("5: from no ship", x.boat(2, 0, 0, 0, -1), UNKNOWN);
        due("5: to no ship", x.boat(0, 2, 0, 0, -1), UNKNOWN);
        due("5: to -1", x.boat(0, -1, 0, 0, -1), UNKNOWN);
        due("5: no such paper, to itself", x.boat(0, 0, 0, 0, 1), UNKNOWN);
        due("5: paper -2", x.boat(0, 1, 0, 0, -2), UNKNOWN);
        due("5: to itself, not known", x.boat(0, 0, 0, 0, 0), OUTSIDE);
        due("5: beef -1", x.boat(0, 1, -1, 0, -1), OUTSIDE);
        due("5: beef 901", x.boat(0, 1, 901, 0, -1), OUTSIDE);
        due("5: water -1", x.boat(0, 1, 0, -1, -1), OUTSIDE);
        due("5: water 901, not known", x.boat(0, 1, 0, 901, 0), OUTSIDE);
        due("5: it does not know it", x.boat(0, 1, 0, 0, 0), NOT);
        x.ship(18, 1, 20, 30, 0, 100);
        due("5: so much beef is not there", x.boat(2, 0, 21, 0, -1), NOT);
        due("5: so much water is not there", x.boat(2, 0, 0, 31, -1), NOT);
        due("5: refused, nothing goes", x.count(3) + x.at(2, 1) + x.at(2, 2), 50);
        due("5: all that is there", x.boat(2, 0, 20, 30, -1), 2);
        due("5: it is gone at once", x.at(2, 1) + x.at(2, 2), 0);
        for (int b = 1; b < 12; b++) {
            due("5: boat " + b, x.boat(0, 1, 0, 0, -1), 1);
        }
        due("5: a thirteenth", x.boat(0, 1, 1, 1, -1), FULL);
        due("5: a thirteenth, not known", x.boat(0, 1, 0, 0, 0), NOT);
        due("5: a thirteenth to itself", x.boat(0, 0, 0, 0, -1), OUTSIDE);
        due("5: a thirteenth takes nothing", x.at(0, 1), 5000);
        due("5: twelve", x.count(3), 12);
        x.hours(2);
        due("5: eleven came", x.count(3), 1);
        due("5: room again", x.boat(0, 1, 1, 1, -1), 3);
    }

    private static void promise5() {
        FleetDelegates x = fleet(0, 63, 16, 0);
        due("5: far by both", x.boat(0, 1, 100, 200, -1), 7);
        due("5: far by y", x.boat(0, 2, 900, 900, -1), 2);
        due("5: in the same cell", x.boat(0, 3, 1, 2, -1), 0);
        due("5: far by x", x.boat(1, 2, 0, 0, -1), 7);
        x.hours(1);
        due("5: beef of the same hour", x.at(3, 1), 5000);
        due("5: water of the same hour", x.at(3, 2), 5001);
        due("5: three on the way", x.count(3), 3);
        x.hours(1);
        due("5: not there before its hour", x.at(2, 1), 4998);
        x.hours(1);
        due("5: there in its hour", x.at(2, 1), 5897);
        x.hours(4);
        due("5: not before hour 7", x.at(1, 2), 4993);
        x.hours(1);
        due("5: in hour 7", x.at(1, 2), 5192);
        due("5: none on the way", x.count(3), 0);
    }

    private static void storesAreLostAbove9000() {
        FleetDelegates x = new FleetDelegates();
        x.ship(0, 100, 900, 900, 0, 100);
        x.ship(0, 100, 8102, 8101, 0, 100);
        x.boat(0, 1, 900, 900, -1);
        x.hours(1);
        due("7: beef above 9000 is lost", x.at(1, 1), 9000);
        due("7: water up to 9000 is not", x.at(1, 2), 9000);
        due("7: it was sent before it ate", x.at(0, 1), 0);
        due("7: so it went hungry", x.at(0, 4), 92);
    }

    private static void promise6() {
        FleetDelegates x = fleet(0, 9);
        x.ship(63, 1, 9, 9, 0, 29);
        due("6: no such ship", x.signal(3, 3), UNKNOWN);
        due("6: ship -1", x.signal(-1, 0), UNKNOWN);
        due("6: signal -1", x.signal(0, -1), OUTSIDE);
        due("6: signal 3", x.signal(0, 3), OUTSIDE);
        due("6: it was to show none", x.signal(0, 0), NONE);
        due("6: it was to show 0", x.signal(0, 1), 0);
        due("6: it was to show 1", x.signal(0, 2), 1);
        due("6: of each by itself", x.signal(1, 1), NONE);
        due("6: not yet yielded", x.signal(2, 1), NONE);
        x.hours(1);
        due("6: in none later", x.signal(0, 2), NONE);
        due("6: it has yielded", x.signal(2, 0), NOT);
        due("6: it has yielded, signal 3", x.signal(2, 3), OUTSIDE);
        due("6: seen", x.saw(1, 0), 2);
        due("6: seen by the other", x.saw(0, 1), 1);
        x.hours(5);
        due("6: it showed once", x.at(1, 4), 100);
    }

    private static void promise7() {
        FleetDelegates x = fleet(0);
        due("7: 0", x.hours(0), OUTSIDE);
        due("7: -1", x.hours(-1), OUTSIDE);
        due("7: 61", x.hours(61), OUTSIDE);
        due("7: most", x.hours(Integer.MAX_VALUE), OUTSIDE);
        due("7: 1", x.hours(1), 1);
        due("7: 60", x.hours(60), 61);
        for (int i = 0; i < 48; i++) {
            x.hours(60);
        }
        due("7: up to here", x.hours(58), 2999);
        due("7: beyond 3000", x.hours(2), OUTSIDE);
        due("7: to 3000", x.hours(1), 3000);
        due("7: beyond it", x.hours(1), OUTSIDE);
        due("7: at 3000", x.count(2), 3000);
        due("7: it ate each hour", x.at(0, 1), 2000);
    }

    private static void promise7Eats() {
        FleetDelegates x = new FleetDelegates();
        x.ship(0, 101, 2, 100, 0, 100);
        x.ship(1, 101, 100, 1, 0, 100);
        x.ship(2, 101, 1, 1, 0, 100);
        x.ship(63, 101, 2, 2, 0, 4);
        x.hours(1);
        due("7: enough", x.at(0, 4), 100);
        due("7: without water", x.at(1, 4), 95);
        due("7: what there is is gone", x.at(1, 2), 0);
        due("7: without both", x.at(2, 4), 92);
        x.hours(1);
        due("7: without beef", x.at(0, 4), 97);
        due("7: never below 0", x.at(3, 4), 0);
        due("7: those that yielded eat", x.at(3, 5), 0);
    }

    private static void promise7Reads() {
        int[] offers = {45, 46, 53, 54, 100};
        int[] wills = {100, 95, 60, 60, 60};
        for (int i = 0; i < offers.length; i++) {
            FleetDelegates x = fleet(0, 0);
            x.set(2, 0);
            x.paper(0, offers[i]);
            x.boat(0, 1, 0, 0, 0);
            x.boat(0, 1, 0, 0, 0);
            x.hours(1);
            due("7: read once, offer " + offers[i], x.at(1, 4), wills[i]);
            x.boat(0, 1, 0, 0, 0);
            x.boat(1, 0, 0, 0, 0);
            x.hours(1);
            due("7: not read again, offer " + offers[i], x.at(1, 4), wills[i]);
            due("7: nor by the one that wrote it", x.at(0, 4), 100);
        }
        FleetDelegates x = fleet(0, 0);
        x.paper(0, 40);
        x.paper(0, 51);
        x.boat(0, 1, 0, 0, 0);
        x.boat(0, 1, 0, 0, 1);
        x.hours(1);
        due("7: an offer below is nothing", x.at(1, 4), 70);
        due("7: both are known", x.knows(1, 0), 3);
    }

    private static void promise7Signals() {
        FleetDelegates x = fleet(0, 3, 4, 27);
        x.ship(32, 1, 100, 100, 0, 29);
        x.signal(0, 2);
        x.signal(2, 0);
        x.set(2, 0);
        x.hours(1);
        due("7: far 3", x.saw(1, 0), 2);
        due("7: far 3 both ways", x.saw(3, 0), 2);
        due("7: far 4", x.saw(2, 0), NONE);
        due("7: 0 is a signal", x.saw(1, 2), 0);
        due("7: none shown", x.saw(0, 1), NONE);
        due("7: never above 100", x.at(1, 4), 100);
        due("7: line 0, none yields", x.count(1), 0);
        x.set(2, 30);
        x.hours(1);
        due("7: yields", x.at(4, 5), 1);
        due("7: not seen in that hour", x.saw(3, 4), NONE);
        x.signal(0, 2);
        x.signal(1, 1);
        x.hours(1);
        due("7: seen in the next", x.saw(3, 4), 3);
        due("7: 3 and 2 in the order of ships", x.at(3, 4), 90);
        due("7: not by one far 4", x.saw(0, 4), NONE);
        due("7: a 2 is seen with will below 100", x.signal(0, 2), NONE);
        x.hours(1);
        due("7: 2 is 4 more, 3 no more", x.at(3, 4), 94);
        due("7: one itself sees the others alone", x.at(0, 4), 100);
        x.set(0, 4);
        x.signal(0, 1);
        x.hours(1);
        due("7: sight 4", x.saw(0, 4), 3);
        due("7: first 3 from it", x.at(0, 4), 90);
        due("7: 1 is nothing more", x.at(3, 4), 94);
        due("7: last saw 1", x.saw(2, 0), 1);
    }

    private static void promise7ThreeAfterOther() {
        FleetDelegates x = fleet(0);
        x.ship(0, 1, 1, 1, 0, 30);
        x.signal(1, 1);
        x.hours(1);
        due("7: a 1 before", x.saw(0, 1), 1);
        x.hours(1);
        due("7: below line by hunger", x.at(1, 5), 1);
        x.hours(1);
        due("7: with the first 3 it is 10 less, a 1 seen before", x.at(0, 4), 90);
    }

    private static void promise7Fog() {
        FleetDelegates x = fleet(0, 0);
        x.set(3, 1 << 1 | 1 << 23);
        x.signal(0, 1);
        x.hours(1);
        due("7: no fog in hour 0", x.saw(1, 0), 1);
        x.signal(0, 2);
        x.hours(1);
        due("7: fog in hour 1", x.saw(1, 0), 1);
        x.hours(21);
        x.signal(0, 2);
        x.hours(1);
        due("7: fog in hour 23", x.saw(1, 0), 1);
        x.signal(0, 0);
        x.hours(1);
        due("7: none in hour 24", x.saw(1, 0), 0);
        x.signal(0, 2);
        x.hours(1);
        due("7: fog in hour 25", x.saw(1, 0), 0);
    }

    private static void promise7Line() {
        FleetDelegates x = new FleetDelegates();
        x.ship(0, 1, 100, 100, 0, 30);
        x.ship(63, 1, 100, 100, 0, 29);
        x.hours(2);
        due("7: will 30 is not below 30", x.at(0, 5), NONE);
        due("7: will 29 is", x.at(1, 5), 0);
        x.set(2, 31);
        x.hours(1);
        due("7: will 30 is below 31", x.at(0, 5), 2);
        x.set(2, 0);
        x.hours(1);
        due("7: it stays so", x.at(0, 5), 2);
    }

    /** What is put in comes behind what is eaten. */
    private static void promise7Steps() {
        FleetDelegates x = new FleetDelegates();
        x.ship(0, 100, 0, 0, 100, 40);
        x.ship(0, 100, 10, 10, 0, 100);
        x.boat(1, 0, 5, 5, -1);
        x.hours(1);
        due("7: first it eats, then boats come", x.at(0, 4), 32);
        due("7: all of it is there", x.at(0, 1), 5);
        FleetDelegates y = new FleetDelegates();
        y.ship(0, 100, 0, 9, 100, 30);
        y.ship(0, 100, 9, 9, 0, 100);
        y.signal(1, 2);
        y.hours(1);
        due("7: first signals, then it yields", y.at(0, 5), NONE);
        FleetDelegates z = new FleetDelegates();
        z.ship(0, 100, 0, 0, 0, 3);
        z.ship(0, 100, 9, 9, 0, 100);
        z.signal(1, 2);
        z.hours(1);
        due("7: never below 0 between steps", z.at(0, 4), 4);
    }

    private static void promise8() {
        FleetDelegates x = new FleetDelegates();
        x.ship(5, 401, 59, 49, 70, 80);
        int[] told = {401, 59, 49, 70, 80, NONE, 5, 9};
        for (int what = 0; what < told.length; what++) {
            due("8: at(0, " + what + ")", x.at(0, what), told[what]);
        }
        due("8: no such ship", x.at(1, 8), UNKNOWN);
        due("8: ship -1", x.at(-1, 0), UNKNOWN);
        due("8: what 8", x.at(0, 8), OUTSIDE);
        due("8: what -1", x.at(0, -1), OUTSIDE);
        int[] men = {1, 100, 101, 200, 900};
        int[] eats = {1, 1, 2, 2, 9};
        for (int i = 0; i < men.length; i++) {
            int s = x.ship(0, men[i], 20, 19, 0, 0);
            due("8: men " + men[i] + " eat", x.at(s, 6), eats[i]);
            due("8: men " + men[i] + " last", x.at(s, 7), 19 / eats[i]);
        }
        FleetDelegates y = new FleetDelegates();
        y.ship(0, 100, 3, 8, 0, 100);
        due("8: beef is less", y.at(0, 7), 3);
    }

    private static void promise9() {
        FleetDelegates x = fleet(0, 9, 27);
        due("9: no such ship", x.knows(3, -1), UNKNOWN);
        due("9: ship -1", x.knows(-1, 0), UNKNOWN);
        due("9: hour -1", x.knows(0, -1), OUTSIDE);
        due("9: hour 3001", x.knows(0, 3001), OUTSIDE);
        x.paper(0, 0);
        x.hours(2);
        x.paper(0, 0);
        x.boat(0, 2, 0, 0, 1);
        x.boat(0, 1, 0, 0, 0);
        x.hours(4);
        due("9: as of hour 1", x.knows(0, 1), 1);
        due("9: as of hour 2", x.knows(0, 2), 3);
        due("9: as of hour 4", x.knows(2, 4), 0);
        due("9: it came in hour 5", x.knows(2, 5), 2);
        due("9: as of hour 2", x.knows(1, 2), 0);
        due("9: it came in hour 3", x.knows(1, 3), 1);
        due("9: later", x.knows(1, 3000), 1);
        due("9: what it knows goes on", x.boat(1, 2, 0, 0, 0), 8);
    }

    private static void promise10() {
        FleetDelegates x = fleet(0, 1, 2);
        due("10: no such ship", x.saw(3, 0), UNKNOWN);
        due("10: ship -1", x.saw(-1, 0), UNKNOWN);
        due("10: no such other", x.saw(0, 3), UNKNOWN);
        due("10: other -1", x.saw(0, -1), UNKNOWN);
        due("10: one and itself", x.saw(1, 1), UNKNOWN);
        due("10: none", x.saw(0, 1), NONE);
        for (int v = 0; v < 3; v++) {
            x.signal(2, v);
            x.hours(1);
            due("10: saw " + v, x.saw(0, 2) * 10 + x.saw(1, 2), 11 * v);
            due("10: not seen by it", x.saw(2, 0), NONE);
        }
        x.hours(1);
        due("10: the last one stays", x.saw(0, 2), 2);
        x.set(2, 100);
        x.ship(8, 1, 9, 9, 0, 99);
        x.hours(1);
        due("10: a new one saw none", x.saw(3, 2), NONE);
        x.hours(1);
        due("10: a 3", x.saw(0, 3), 3);
    }

    private static void promise11() {
        FleetDelegates x = fleet(0, 0, 63);
        due("11: no such ship", x.would(3, -2, 0), UNKNOWN);
        due("11: ship -1", x.would(-1, 0, 1), UNKNOWN);
        due("11: offer -2", x.would(0, -2, 1), OUTSIDE);
        due("11: offer 101", x.would(0, 101, 1), OUTSIDE);
        due("11: 0 hours", x.would(0, 0, 0), OUTSIDE);
        due("11: 61 hours", x.would(0, 0, 61), OUTSIDE);
        x.set(2, 61);
        due("11: none yields", x.would(0, -1, 60), 0);
        due("11: an offer of 52 is 35 less", x.would(0, 52, 60), 0);
        due("11: an offer of 53 is 40 less", x.would(0, 53, 1), 1);
        due("11: the other sees it", x.would(0, 53, 60), 1);
        x.set(2, 91);
        due("11: and is below 91 then", x.would(0, 53, 1), 1);
        due("11: in the second hour", x.would(0, 53, 2), 3);
        x.signal(1, 2);
        due("11: what is to be shown is seen", x.would(0, 47, 1), 0);
        due("11: not enough of it", x.would(0, 48, 1), 1);
        due("11: nothing is changed", x.signal(1, 0), 2);
        x.paper(0, 100);
        x.boat(0, 1, 100, 100, 0);
        x.boat(0, 2, 100, 100, 0);
        due("11: boats come", x.would(2, -1, 1), 2);
        due("11: boats come later", x.would(2, -1, 8), 7);
        due("11: nothing is changed", x.count(1) + x.count(2), 0);
        due("11: boats are on the way", x.count(3), 2);
        due("11: beef", x.at(1, 1), 5000);
        due("11: will", x.at(1, 4), 100);
        due("11: papers", x.knows(1, 3000), 0);
        due("11: seen", x.saw(1, 0), NONE);
        x.hours(8);
        due("11: so it comes", x.count(1), 3);
        due("11: those that yielded would have", x.would(2, -1, 1), 7);
    }

    /** What would come is of all that there is: men, stores, papers on the way. */
    private static void promise11Stores() {
        FleetDelegates x = new FleetDelegates();
        x.ship(0, 900, 9, 9, 0, 40);
        x.ship(1, 100, 900, 900, 90, 100);
        x.paper(1, 95);
        x.paper(1, 0);
        due("11: an offer of 0 is read", x.would(0, 0, 1), 1);
        due("11: it is not, with none", x.would(0, -1, 1), 0);
        due("11: hungry in the second hour", x.would(0, -1, 2), 0);
        due("11: and in the third", x.would(0, -1, 3), 1);
        x.set(2, 20);
        due("11: three hungry ones more", x.would(0, -1, 4), 1);
        x.boat(1, 0, 18, 0, -1);
        due("11: with beef", x.would(0, -1, 4), 0);
        due("11: until it is eaten", x.would(0, -1, 5), 1);
        x.boat(1, 0, 0, 18, -1);
        due("11: with water, too", x.would(0, -1, 5), 0);
        x.boat(1, 0, 0, 0, 1);
        due("11: with a paper on the way", x.would(0, -1, 2), 1);
        due("11: before it comes", x.would(0, -1, 1), 0);
        due("11: all of it is still there", x.at(0, 1) * 100 + x.at(1, 1), 900 + 882);
    }

    private static void promise11Bounds() {
        FleetDelegates x = fleet(0);
        for (int i = 0; i < 49; i++) {
            x.hours(60);
        }
        due("11: to 3000", x.would(0, -1, 60), 0);
        x.hours(1);
        due("11: beyond 3000", x.would(0, -1, 60), OUTSIDE);
        due("11: 59", x.would(0, -1, 59), 0);
        x.hours(59);
        due("11: at 3000", x.would(0, -1, 1), OUTSIDE);
        due("5: a boat beyond 3000 sets out", x.ship(1, 1, 1, 1, 0, 0) + x.boat(0, 1, 0, 0, -1), 3002);
    }

    public static void main(String[] args) {
        promise1();
        promise2();
        promise3();
        promise4();
        promise5Refusals();
        promise5();
        storesAreLostAbove9000();
        promise6();
        promise7();
        promise7Eats();
        promise7Reads();
        promise7Signals();
        promise7ThreeAfterOther();
        promise7Fog();
        promise7Line();
        promise7Steps();
        promise8();
        promise9();
        promise10();
        promise11();
        promise11Stores();
        promise11Bounds();
        DUE.end();
    }
}
