/** An object stands 512 calls, whichever they are: the last one is answered as if it were an early one. */
public final class CallsTest {
    private static final Due DUE = new Due("CallsTest");
    private static final int NONE = Due.NONE, OUTSIDE = Due.OUTSIDE, NOT = Due.NOT, FULL = Due.FULL;
    private static final int CALLS = 512;
    private static final int BUILT = 15;
    private static final long CARRY_5 = 0x3520797272616320L;

    private interface Call {
        int on(FleetDelegates x);
    }

    private static void due(String call, long got, long want) {
        DUE.due(call, got, want);
    }

    /** Two ships and something of all, made by as many calls as BUILT says. */
    private static FleetDelegates built() {
        FleetDelegates x = new FleetDelegates();
        x.ship(48, 100, 900, 900, 50, 100);
        x.ship(57, 200, 900, 900, 60, 90);
        x.paper(0, 40);
        x.boat(0, 1, 5, 6, 0);
        x.signal(0, 2);
        x.hours(6);
        x.fellow(1, 3);
        x.battery(56, 0, 7);
        x.officer(0, 7);
        x.officer(0, 8);
        x.list(2, true);
        x.ask(3, 4, 5);
        x.write(CARRY_5, 8);
        x.articles(0);
        x.write(CARRY_5, 8);
        return x;
    }

    /** The last call of 512, behind calls that only ask. */
    private static void last(String call, int want, Call asked) {
        FleetDelegates x = built();
        for (int calls = BUILT; calls < CALLS - 1; calls++) {
            due("call " + (calls + 1), x.count(calls % 2 == 0 ? 2 : 6), calls % 2 == 0 ? 6 : 2);
        }
        due("call 512, " + call, asked.on(x), want);
    }

    private static void lastOfShips() {
        last("ship", 2, x -> x.ship(0, 1, 0, 0, 0, 0));
        last("ship, refused", OUTSIDE, x -> x.ship(0, 0, 0, 0, 0, 0));
        last("set", 3, x -> x.set(0, 7));
        last("paper", 1, x -> x.paper(1, 0));
        last("boat", 7, x -> x.boat(0, 1, 1, 1, 0));
        last("boat, refused", NOT, x -> x.boat(0, 1, 900, 1, 0));
        last("signal", NONE, x -> x.signal(0, 2));
        last("hours", 66, x -> x.hours(60));
        last("at", 900 - 12 + 5, x -> x.at(1, 1));
        last("knows", 1, x -> x.knows(1, 1));
        last("saw", 2, x -> x.saw(1, 0));
        last("would", 0, x -> x.would(0, 100, 60));
    }

    private static void lastOfArticles() {
        last("write", 16, x -> x.write(0, 8));
        last("erase", 8, FleetDelegates::erase);
        last("fault", NONE, FleetDelegates::fault);
        last("articles", 1, x -> x.articles(1));
        last("owed", 0, x -> x.owed(0, 1, 3000));
        last("voices", 1, x -> x.voices(0, 1, 3000));
        last("unlike", NONE, x -> x.unlike(1, 0));
        last("fellow", 1, x -> x.fellow(0, 63));
        last("named", 1, x -> x.named(0, 0));
        last("word", NONE, x -> x.word(0, 0, 0));
    }

    private static void lastOfRest() {
        last("vote", 5, x -> x.vote(100, 1));
        last("least", NONE, x -> x.least(0));
        last("sharing", 1782 / 3, x -> x.sharing(3));
        last("battery", 2, x -> x.battery(0, 0, 1));
        last("slip", 7, x -> x.slip(0, 1));
        last("officer", 2, x -> x.officer(1, 15));
        last("list", 1, x -> x.list(3, false));
        last("needs", 15, x -> x.needs(0, 7));
        last("sailed", 0, FleetDelegates::sailed);
        last("asked", 2, x -> x.asked(0));
        last("ask", 1, x -> x.ask(0, 20, 20));
        last("reaches", 1, x -> x.reaches(1, 4));
        last("begin", 3, x -> x.begin(1, 4));
        last("count", 6, x -> x.count(2));
    }

    private static void hoursAlone() {
        FleetDelegates x = new FleetDelegates();
        x.ship(0, 100, 509, 511, 0, 100);
        for (int calls = 1; calls < CALLS - 1; calls++) {
            due("hours, call " + (calls + 1), x.hours(1), calls);
        }
        due("its will behind 510 hours", x.at(0, 4), 97);
    }

    private static void longHours() {
        FleetDelegates x = new FleetDelegates();
        for (int calls = 0; calls < CALLS; calls++) {
            due("60 hours, call " + (calls + 1), x.hours(60), calls < 50 ? 60 * calls + 60 : OUTSIDE);
        }
    }

    private static void texts() {
        FleetDelegates x = new FleetDelegates();
        for (int calls = 0; calls < CALLS; calls += 2) {
            due("write, call " + (calls + 1), x.write(CARRY_5 + ((long) (calls % 5) << 56), 8), 8);
            due("articles, call " + (calls + 2), x.articles(calls / 2 % 2), 1);
        }
        FleetDelegates y = new FleetDelegates();
        for (int calls = 0; calls < CALLS; calls++) {
            due("write alone, call " + (calls + 1), y.write(0, 8), calls < 25 ? 8 * calls + 8 : FULL);
        }
    }

    private static void boatsAndSignals() {
        FleetDelegates x = new FleetDelegates();
        x.ship(0, 1, 900, 900, 0, 50);
        x.ship(0, 1, 900, 900, 0, 0);
        x.set(2, 0);
        for (int calls = 3; calls + 3 < CALLS; calls += 3) {
            int hour = calls / 3 - 1;
            due("boat, call " + (calls + 1), x.boat(0, 1, 1, 1, NONE), hour);
            due("signal, call " + (calls + 2), x.signal(0, 2), NONE);
            due("hours, call " + (calls + 3), x.hours(1), hour + 1);
        }
        due("call 511, beef of 169 boats behind 169 hours", x.at(1, 1), 900);
        due("call 512, its will", x.at(1, 4), 100);
    }

    private static void many(String call, int want, Call asked) {
        FleetDelegates x = built();
        for (int calls = BUILT; calls < CALLS; calls++) {
            due(call + ", call " + (calls + 1), asked.on(x), want);
        }
    }

    private static void manyOfOne() {
        many("would", 0, x -> x.would(1, 100, 60));
        many("fault", NONE, FleetDelegates::fault);
        many("slip", 7, x -> x.slip(0, 1));
        many("unlike", NONE, x -> x.unlike(0, 0));
        many("asked", 2, x -> x.asked(0));
        many("begin", 0, x -> x.begin(5, 4));
        many("ask", 1, x -> x.ask(0, 20, 20));
        many("least", NONE, x -> x.least(0));
        many("a ship refused", OUTSIDE, x -> x.ship(0, 901, 0, 0, 0, 0));
        FleetDelegates x = built();
        for (int calls = BUILT; calls < CALLS; calls++) {
            due("list, call " + (calls + 1), x.list(3, calls % 2 == 0), calls == BUILT ? 1 : 2);
        }
    }

    public static void main(String[] args) {
        DUE.says("An object is used for at most 512 calls after it has been made;");
        lastOfShips();
        lastOfArticles();
        lastOfRest();
        hoursAlone();
        longHours();
        texts();
        boatsAndSignals();
        manyOfOne();
        DUE.end();
    }
}
