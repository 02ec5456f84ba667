import java.util.ArrayList;
import java.util.List;

/**
 * A refused call changes nothing, nor does a call that only asks: of two objects made by the same calls one gets it as well,
 * and then both answer all that can be asked of them alike, also what is hidden until hours go by.
 */
public final class UnchangedTest {
    private static final Due DUE = new Due("UnchangedTest");
    private static final int NONE = Due.NONE, UNKNOWN = Due.UNKNOWN, OUTSIDE = Due.OUTSIDE, NOT = Due.NOT, FULL = Due.FULL;
    private static final long BLANKS = 0x2020202020202020L;

    private interface Call {
        int on(FleetDelegates x);
    }

    private interface State {
        FleetDelegates made();
    }

    private final String name;
    private final State state;
    private final List<String> due;

    private UnchangedTest(String name, State state) {
        this.name = name;
        this.state = state;
        this.due = told(state.made(), state.made());
    }

    private void refused(int answer, String call, Call refused) {
        FleetDelegates x = state.made();
        FleetDelegates y = state.made();
        refused.on(y);
        DUE.due(name + ": " + call, refused.on(x), answer);
        same(call, x, y);
    }

    private void asks(String call, Call asked) {
        FleetDelegates x = state.made();
        FleetDelegates y = state.made();
        asked.on(y);
        int answer = asked.on(x);
        DUE.due(name + ": " + call + " asks, and is not refused", answer >= NONE ? 0 : answer, 0);
        same(call, x, y);
    }

    private void same(String call, FleetDelegates x, FleetDelegates y) {
        List<String> told = told(x, y);
        String changed = "";
        for (int i = 0; i < told.size() && changed.isEmpty(); i++) {
            changed = told.get(i).equals(due.get(i)) ? "" : told.get(i) + " is due as " + due.get(i);
        }
        DUE.due(name + ": after " + call + " changed answers: " + changed, changed.isEmpty() ? 0 : 1, 0);
    }

    // ---- all that an object tells

    /** Two objects alike: what is asked of the first would hide from the second what asking itself had changed. */
    private static List<String> told(FleetDelegates x, FleetDelegates y) {
        List<String> told = new ArrayList<>();
        tellShips(told, x);
        tellBooks(told, x);
        tellRest(told, x);
        tellHidden(told, y);
        return told;
    }

    private static void tellShips(List<String> told, FleetDelegates x) {
        int hour = x.count(2);
        for (int what = 0; what <= 8; what++) {
            told.add("count(" + what + ") " + x.count(what));
        }
        for (int s = 0; s < 6; s++) {
            for (int what = 0; what < 6; what++) {
                told.add("at(" + s + ", " + what + ") " + x.at(s, what));
            }
            for (int o = 0; o < 6; o++) {
                told.add("saw(" + s + ", " + o + ") " + x.saw(s, o));
            }
            told.add("knows(" + s + ") before " + x.knows(s, Math.max(0, hour - 1)));
            told.add("knows(" + s + ") " + x.knows(s, hour));
        }
    }

    private static void tellBooks(List<String> told, FleetDelegates x) {
        for (int book = 0; book < 2; book++) {
            for (int s = 0; s < 6; s++) {
                told.add("owed(" + book + ", " + s + ") " + x.owed(book, s, 5));
                told.add("voices(" + book + ", " + s + ") " + x.voices(book, s, 5));
            }
            told.add("named(" + book + ", 0) " + x.named(book, 0));
            told.add("named(" + book + ", 5) " + x.named(book, 5));
            for (int f = 0; f < 16; f += 5) {
                told.add("word(" + book + ", " + f + ") " + x.word(book, f, 5));
            }
        }
        told.add("unlike(0) " + x.unlike(0, 0));
        told.add("fault() " + x.fault());
    }

    private static void tellRest(List<String> told, FleetDelegates x) {
        for (int what = 0; what < 3; what++) {
            told.add("vote(50, " + what + ") " + x.vote(50, what));
        }
        told.add("least(0) " + x.least(0));
        told.add("would, none " + x.would(0, -1, 3));
        told.add("would, 100 " + x.would(0, 100, 1));
        for (int s = 0; s < 6; s++) {
            told.add("slip(" + s + ", 1) " + x.slip(s, 1));
            told.add("slip(" + s + ", 24) " + x.slip(s, 24));
            told.add("asked(" + s + ") " + x.asked(s));
        }
        told.add("sailed() " + x.sailed());
        for (int n = 1; n <= 5; n++) {
            for (int g = 1; g < 20; g += 6) {
                told.add("begin(" + n + ", " + g + ") " + x.begin(n, g));
            }
        }
    }

    /** These change the object. */
    private static void tellHidden(List<String> told, FleetDelegates x) {
        for (int what = 0; what < 4; what++) {
            int was = x.set(what, 1);
            told.add("set(" + what + ") " + was);
            x.set(what, was);
        }
        for (int s = 0; s < 6; s++) {
            told.add("needs(" + s + ") " + x.needs(s, 0));
        }
        for (int o = 0; o < 12; o++) {
            told.add("list(" + o + ", false) " + x.list(1 << o, false));
        }
        told.add("hours(1) " + x.hours(1));
        told.add("hours(7) " + x.hours(7));
        for (int s = 0; s < 6; s++) {
            for (int what = 1; what < 6; what++) {
                told.add("8 hours later at(" + s + ", " + what + ") " + x.at(s, what));
            }
            for (int o = 0; o < 6; o++) {
                told.add("8 hours later saw(" + s + ", " + o + ") " + x.saw(s, o));
            }
            told.add("8 hours later knows(" + s + ") " + x.knows(s, 3000));
            told.add("signal(" + s + ") " + x.signal(s, 0));
        }
        told.add("the next paper " + x.paper(0, 0));
        told.add("the next fellow " + x.fellow(0, 0));
        told.add("the next officer " + x.officer(0, 0));
        told.add("the next battery " + x.battery(0, 0, 1));
        told.add("the next byte " + x.write('5', 1));
        told.add("its fault " + x.fault());
        told.add("articles(0) " + x.articles(0));
        told.add("owed by them " + x.owed(0, 0, 5));
        told.add("erase() " + x.erase());
        told.add("the next ship " + x.ship(0, 1, 0, 0, 0, 0));
    }

    // ---- states

    private static FleetDelegates middling() {
        FleetDelegates x = new FleetDelegates();
        x.set(0, 2);
        x.set(1, 1);
        x.set(2, 25);
        x.set(3, 1 << 3);
        x.ship(40, 250, 500, 400, 60, 50);
        x.ship(58, 101, 20, 30, 30, 95);
        x.ship(49, 900, 90, 90, 10, 24);
        Due.articles(x, 0, "owe all 3;voice 1 4;pardon 1;pardon 0 but 2;carry 5 from 3");
        Due.articles(x, 1, "owe 0 2;pardon all but 1");
        x.hours(1);
        x.paper(0, 50);
        x.paper(1, 70);
        x.boat(0, 1, 7, 8, 0);
        x.hours(1);
        x.boat(1, 0, 2, 3, 1);
        x.boat(0, 2, 100, 90, -1);
        x.signal(0, 1);
        x.signal(1, 2);
        x.fellow(0, 4);
        x.fellow(1, 63);
        x.battery(57, 1, 9);
        x.battery(42, 2, 5);
        x.officer(0, 3);
        x.officer(0, 12);
        x.officer(1, 15);
        x.list(5, true);
        x.needs(1, 6);
        x.ask(0, 3, 9);
        x.ask(2, 7, 7);
        x.ask(4, -2, 20);
        Due.write(x, "owe 0 9;owe 1");
        return x;
    }

    /** As middling, but the text has no fault. */
    private static FleetDelegates written() {
        FleetDelegates x = middling();
        Due.write(x, " 8;carry 7");
        return x;
    }

    private static FleetDelegates full() {
        FleetDelegates x = new FleetDelegates();
        for (int s = 0; s < 6; s++) {
            x.ship(9 * s, 100 * s + 1, 900, 800, 10 * s, s == 5 ? 29 : 100);
            x.signal(s, s % 2);
        }
        Due.articles(x, 0, "pardon all but 3;owe all 9;voice 0 2");
        Due.articles(x, 1, "pardon 3 but 5;pardon 5 but 3;owe 5 9");
        x.hours(1);
        x.signal(0, 2);
        for (int p = 0; p < 6; p++) {
            x.paper(p, 10 * p);
        }
        for (int b = 0; b < 12; b++) {
            x.boat(b % 6, (b + 1) % 6, b, 2 * b, b < 6 ? b : NONE);
        }
        for (int f = 0; f < 16; f++) {
            x.fellow(f % 6, f);
        }
        for (int o = 0; o < 12; o++) {
            x.officer(o % 3, 1 << o % 4);
        }
        for (int b = 0; b < 4; b++) {
            x.battery(60 - b, b, b + 1);
        }
        x.list(3125, true);
        x.ask(3, 5, 5);
        for (int i = 0; i < 24; i++) {
            x.write(BLANKS, 8);
        }
        Due.write(x, "owe 0 9;");
        return x;
    }

    /** As full, but with room for one byte. */
    private static FleetDelegates nearlyFull() {
        FleetDelegates x = full();
        x.erase();
        for (int i = 0; i < 24; i++) {
            x.write(BLANKS, 8);
        }
        Due.write(x, "owe 0 9");
        return x;
    }

    private static FleetDelegates toTheEnd(int hours) {
        FleetDelegates x = middling();
        for (int i = 0; i < 49; i++) {
            x.hours(60);
        }
        x.hours(hours - x.count(2));
        x.paper(0, 9);
        x.boat(0, 1, 0, 0, 2);
        return x;
    }

    // ---- refused in all states, in all with ships, in each

    private void refusedShips() {
        refused(UNKNOWN, "ship(-1, ..)", x -> x.ship(-1, 1, 1, 1, 1, 1));
        refused(UNKNOWN, "ship(64, ..)", x -> x.ship(64, 1, 1, 1, 1, 1));
        refused(OUTSIDE, "ship(0, 0, ..)", x -> x.ship(0, 0, 1, 1, 1, 1));
        refused(OUTSIDE, "ship(0, 901, ..)", x -> x.ship(0, 901, 1, 1, 1, 1));
        refused(OUTSIDE, "ship, beef -1", x -> x.ship(0, 1, -1, 1, 1, 1));
        refused(OUTSIDE, "ship, beef 9001", x -> x.ship(0, 1, 9001, 1, 1, 1));
        refused(OUTSIDE, "ship, water -1", x -> x.ship(0, 1, 1, -1, 1, 1));
        refused(OUTSIDE, "ship, water 9001", x -> x.ship(0, 1, 1, 9001, 1, 1));
        refused(OUTSIDE, "ship, want -1", x -> x.ship(0, 1, 1, 1, -1, 1));
        refused(OUTSIDE, "ship, want 101", x -> x.ship(0, 1, 1, 1, 101, 1));
        refused(OUTSIDE, "ship, will -1", x -> x.ship(0, 1, 1, 1, 1, -1));
        refused(OUTSIDE, "ship, will 101", x -> x.ship(0, 1, 1, 1, 1, 101));
    }

    private void refusedHours() {
        int[] most = {7, 3, 100, 0xffffff};
        for (int what = 0; what < 4; what++) {
            int w = what;
            refused(OUTSIDE, "set(" + w + ", -1)", x -> x.set(w, -1));
            refused(OUTSIDE, "set(" + w + ", most + 1)", x -> x.set(w, most[w] + 1));
        }
        refused(OUTSIDE, "set(-1, 0)", x -> x.set(-1, 0));
        refused(OUTSIDE, "set(4, 0)", x -> x.set(4, 0));
        for (int ship : Due.beyond(0, 5)) {
            refused(UNKNOWN, "paper(" + ship + ", 0)", x -> x.paper(ship, 0));
            refused(UNKNOWN, "boat(" + ship + ", 0, ..)", x -> x.boat(ship, 0, 1, 1, -1));
            refused(UNKNOWN, "boat(0, " + ship + ", ..)", x -> x.boat(0, ship, 1, 1, -1));
            refused(UNKNOWN, "signal(" + ship + ", 0)", x -> x.signal(ship, 0));
            refused(UNKNOWN, "at(" + ship + ", 0)", x -> x.at(ship, 0));
            refused(UNKNOWN, "knows(" + ship + ", 0)", x -> x.knows(ship, 0));
            refused(UNKNOWN, "saw(" + ship + ", 0)", x -> x.saw(ship, 0));
            refused(UNKNOWN, "saw(0, " + ship + ")", x -> x.saw(0, ship));
            refused(UNKNOWN, "would(" + ship + ", 100, 1)", x -> x.would(ship, 100, 1));
        }
        refused(UNKNOWN, "saw(1, 1)", x -> x.saw(1, 1));
        refused(UNKNOWN, "boat, paper 6", x -> x.boat(0, 1, 1, 1, 6));
        refused(UNKNOWN, "boat, paper -2", x -> x.boat(0, 1, 1, 1, -2));
        for (int n : Due.beyond(1, 60)) {
            refused(OUTSIDE, "hours(" + n + ")", x -> x.hours(n));
        }
    }

    private void refusedArticles() {
        for (int n : Due.beyond(1, 8)) {
            refused(OUTSIDE, "write(.., " + n + ")", x -> x.write(BLANKS, n));
        }
        for (int book : Due.beyond(0, 1)) {
            refused(UNKNOWN, "articles(" + book + ")", x -> x.articles(book));
            refused(UNKNOWN, "owed(" + book + ", 0, 0)", x -> x.owed(book, 0, 0));
            refused(UNKNOWN, "voices(" + book + ", 0, 0)", x -> x.voices(book, 0, 0));
            refused(UNKNOWN, "named(" + book + ", 0)", x -> x.named(book, 0));
            refused(UNKNOWN, "word(" + book + ", 0, 0)", x -> x.word(book, 0, 0));
        }
        for (int ship : Due.beyond(0, 5)) {
            refused(UNKNOWN, "owed(0, " + ship + ", 0)", x -> x.owed(0, ship, 0));
            refused(UNKNOWN, "voices(0, " + ship + ", 0)", x -> x.voices(0, ship, 0));
            refused(UNKNOWN, "unlike(" + ship + ", 0)", x -> x.unlike(ship, 0));
            refused(UNKNOWN, "fellow(" + ship + ", 0)", x -> x.fellow(ship, 0));
        }
        for (int fellow : Due.beyond(0, 15)) {
            refused(UNKNOWN, "word(0, " + fellow + ", 0)", x -> x.word(0, fellow, 0));
        }
        for (int hour : Due.beyond(0, 3000)) {
            refused(OUTSIDE, "named(0, " + hour + ")", x -> x.named(0, hour));
        }
    }

    private void refusedVotes() {
        for (int offer : Due.beyond(0, 100)) {
            refused(OUTSIDE, "vote(" + offer + ", 2)", x -> x.vote(offer, 2));
        }
        for (int what : Due.beyond(0, 2)) {
            refused(OUTSIDE, "vote(0, " + what + ")", x -> x.vote(0, what));
        }
        for (int set : Due.beyond(0, 63)) {
            refused(OUTSIDE, "least(" + set + ")", x -> x.least(set));
            refused(OUTSIDE, "sharing(" + set + ")", x -> x.sharing(set));
        }
        refused(OUTSIDE, "sharing(0)", x -> x.sharing(0));
        for (int cell : Due.beyond(0, 63)) {
            refused(UNKNOWN, "battery(" + cell + ", 0, 1)", x -> x.battery(cell, 0, 1));
        }
        for (int range : Due.beyond(0, 7)) {
            refused(OUTSIDE, "battery(0, " + range + ", 1)", x -> x.battery(0, range, 1));
        }
        for (int guns : Due.beyond(1, 50)) {
            refused(OUTSIDE, "battery(0, 7, " + guns + ")", x -> x.battery(0, 7, guns));
        }
    }

    private void refusedSailing() {
        for (int ship : Due.beyond(0, 5)) {
            refused(UNKNOWN, "slip(" + ship + ", 1)", x -> x.slip(ship, 1));
            refused(UNKNOWN, "officer(" + ship + ", 1)", x -> x.officer(ship, 1));
            refused(UNKNOWN, "needs(" + ship + ", 0)", x -> x.needs(ship, 0));
            refused(UNKNOWN, "asked(" + ship + ")", x -> x.asked(ship));
        }
        for (int set : Due.beyond(0, 4095)) {
            refused(OUTSIDE, "list(" + set + ", true)", x -> x.list(set, true));
            refused(OUTSIDE, "list(" + set + ", false)", x -> x.list(set, false));
        }
        for (int ask : Due.beyond(0, 4)) {
            refused(UNKNOWN, "ask(" + ask + ", 20, 20)", x -> x.ask(ask, 20, 20));
        }
        for (int v : Due.beyond(-20, 20)) {
            refused(OUTSIDE, "ask(0, " + v + ", 20)", x -> x.ask(0, v, 20));
            refused(OUTSIDE, "ask(4, 20, " + v + ")", x -> x.ask(4, 20, v));
        }
        for (int n : Due.beyond(1, 5)) {
            refused(OUTSIDE, "reaches(" + n + ", 1)", x -> x.reaches(n, 1));
            refused(OUTSIDE, "begin(" + n + ", 1)", x -> x.begin(n, 1));
        }
        for (int g : Due.beyond(-100, 100)) {
            refused(OUTSIDE, "reaches(1, " + g + ")", x -> x.reaches(1, g));
            refused(OUTSIDE, "begin(1, " + g + ")", x -> x.begin(1, g));
        }
        for (int what : Due.beyond(0, 8)) {
            refused(OUTSIDE, "count(" + what + ")", x -> x.count(what));
        }
    }

    private void refusedAlways() {
        refusedShips();
        refusedHours();
        refusedArticles();
        refusedVotes();
        refusedSailing();
    }

    private void refusedWithShips() {
        for (int v : Due.beyond(0, 900)) {
            refused(OUTSIDE, "paper(0, " + v + ")", x -> x.paper(0, v));
            refused(OUTSIDE, "boat, beef " + v, x -> x.boat(0, 1, v, 1, -1));
            refused(OUTSIDE, "boat, water " + v, x -> x.boat(0, 1, 1, v, -1));
            refused(OUTSIDE, "signal(0, " + v + ")", x -> x.signal(0, v));
            refused(OUTSIDE, "at(0, " + v + ")", x -> x.at(0, v));
            refused(OUTSIDE, "fellow(0, " + v + ")", x -> x.fellow(0, v));
            refused(OUTSIDE, "slip(0, " + v + ")", x -> x.slip(0, v));
            refused(OUTSIDE, "officer(0, " + v + ")", x -> x.officer(0, v));
            refused(OUTSIDE, "needs(0, " + v + ")", x -> x.needs(0, v));
            refused(OUTSIDE, "would(0, 100, " + v + ")", x -> x.would(0, 100, v));
        }
        for (int offer : Due.beyond(-1, 100)) {
            refused(OUTSIDE, "would(0, " + offer + ", 1)", x -> x.would(0, offer, 1));
        }
        for (int hour : Due.beyond(0, 3000)) {
            refused(OUTSIDE, "knows(0, " + hour + ")", x -> x.knows(0, hour));
            refused(OUTSIDE, "owed(0, 0, " + hour + ")", x -> x.owed(0, 0, hour));
            refused(OUTSIDE, "voices(0, 0, " + hour + ")", x -> x.voices(0, 0, hour));
            refused(OUTSIDE, "unlike(0, " + hour + ")", x -> x.unlike(0, hour));
            refused(OUTSIDE, "word(0, 0, " + hour + ")", x -> x.word(0, 0, hour));
        }
        refused(OUTSIDE, "boat to itself", x -> x.boat(0, 0, 1, 1, -1));
    }

    private void refusedMiddling() {
        refused(NOT, "boat, one of beef too many", x -> x.boat(1, 0, x.at(1, 1) + 1, 1, -1));
        refused(NOT, "boat, one of water too many", x -> x.boat(1, 0, 1, x.at(1, 2) + 1, -1));
        refused(NOT, "boat, a paper not known", x -> x.boat(0, 1, 1, 1, 1));
        refused(UNKNOWN, "boat to a ship not there", x -> x.boat(0, 3, 1, 1, 0));
        refused(UNKNOWN, "boat, a paper not there", x -> x.boat(0, 1, 1, 1, 2));
        refused(NOT, "signal of one that has yielded", x -> x.signal(2, 1));
        refused(NOT, "articles(0)", x -> x.articles(0));
        refused(NOT, "articles(1)", x -> x.articles(1));
        refused(NOT, "word of one that is pardoned", x -> x.word(0, 1, 5));
        refused(UNKNOWN, "word of a fellow not there", x -> x.word(0, 2, 5));
        refused(OUTSIDE, "least, one there and one not", x -> x.least(9));
        refused(OUTSIDE, "sharing, one there and one not", x -> x.sharing(9));
        refused(OUTSIDE, "list, two there and one not", x -> x.list(11, true));
        refused(OUTSIDE, "list back, two there and one not", x -> x.list(13, false));
        refused(UNKNOWN, "paper of a ship not there", x -> x.paper(3, 0));
        refused(UNKNOWN, "fellow of a ship not there", x -> x.fellow(3, 0));
        refused(UNKNOWN, "officer of a ship not there", x -> x.officer(3, 0));
        refused(UNKNOWN, "needs of a ship not there", x -> x.needs(3, 0));
        refused(UNKNOWN, "signal of a ship not there", x -> x.signal(3, 0));
    }

    private void refusedFull() {
        refused(FULL, "ship", x -> x.ship(0, 1, 1, 1, 1, 1));
        refused(FULL, "paper", x -> x.paper(0, 0));
        refused(FULL, "boat", x -> x.boat(0, 1, 1, 1, -1));
        refused(FULL, "boat with a paper", x -> x.boat(0, 1, 1, 1, 0));
        refused(FULL, "boat with nothing", x -> x.boat(0, 1, 0, 0, -1));
        refused(FULL, "fellow", x -> x.fellow(0, 5));
        refused(FULL, "battery", x -> x.battery(56, 7, 50));
        refused(FULL, "officer", x -> x.officer(5, 15));
        refused(NOT, "signal of one that has yielded", x -> x.signal(5, 2));
        for (int n = 1; n <= 8; n++) {
            int bytes = n;
            refused(FULL, "write(.., " + n + ")", x -> x.write(BLANKS, bytes));
        }
        refused(NOT, "articles(0)", x -> x.articles(0));
        refused(NOT, "articles(1)", x -> x.articles(1));
    }

    private void refusedNearlyFull() {
        for (int n = 2; n <= 8; n++) {
            int bytes = n;
            refused(FULL, "write(.., " + n + ")", x -> x.write(0x3535353535353535L, bytes));
        }
    }

    private void refusedBeyond(int hours) {
        int[] beyond = {hours, Math.min(60, hours + 1), 60};
        for (int n : beyond) {
            refused(OUTSIDE, "hours(" + n + ")", x -> x.hours(n));
            refused(OUTSIDE, "would(0, -1, " + n + ")", x -> x.would(0, -1, n));
            refused(OUTSIDE, "would(0, 100, " + n + ")", x -> x.would(0, 100, n));
        }
    }

    private void asking() {
        for (int n = 1; n <= 60; n += 59) {
            int hours = n;
            for (int offer : new int[] {-1, 0, 100}) {
                asks("would(0, " + offer + ", " + n + ")", x -> x.would(0, offer, hours));
                asks("would(1, " + offer + ", " + n + ")", x -> x.would(1, offer, hours));
            }
        }
        for (int what = 0; what < 8; what++) {
            int w = what;
            asks("at(0, " + w + ")", x -> x.at(0, w));
            asks("count(" + w + ")", x -> x.count(w));
        }
        asks("count(8)", x -> x.count(8));
        asks("knows", x -> x.knows(0, 0));
        asks("saw", x -> x.saw(0, 1));
        asks("fault", FleetDelegates::fault);
        asks("owed", x -> x.owed(0, 0, 3000));
        asks("voices", x -> x.voices(1, 1, 0));
        asks("unlike", x -> x.unlike(0, 0));
        asks("named", x -> x.named(0, 0));
        asks("word", x -> x.word(0, 0, 0));
        for (int what = 0; what < 3; what++) {
            int w = what;
            asks("vote(50, " + w + ")", x -> x.vote(50, w));
        }
        asks("least(0)", x -> x.least(0));
        asks("least(3)", x -> x.least(3));
        asks("sharing", x -> x.sharing(3));
        asks("slip", x -> x.slip(0, 24));
        asks("sailed", FleetDelegates::sailed);
        asks("asked", x -> x.asked(0));
        asks("reaches", x -> x.reaches(5, 10));
        asks("begin", x -> x.begin(5, 10));
        asks("list(0, true)", x -> x.list(0, true));
        asks("list(0, false)", x -> x.list(0, false));
        asks("set to what it is", x -> x.set(0, x.set(0, 5)));
    }

    private static void would() {
        DUE.says("nothing is changed. UNKNOWN; OUTSIDE: also beyond 3000.");
        new UnchangedTest("middling", UnchangedTest::middling).asking();
        new UnchangedTest("written", UnchangedTest::written).asking();
    }

    public static void main(String[] args) {
        DUE.says("Refused, and nothing changes:");
        new UnchangedTest("empty", FleetDelegates::new).refusedAlways();
        UnchangedTest middling = new UnchangedTest("middling", UnchangedTest::middling);
        middling.refusedAlways();
        middling.refusedWithShips();
        middling.refusedMiddling();
        UnchangedTest written = new UnchangedTest("written", UnchangedTest::written);
        written.refusedAlways();
        written.refusedWithShips();
        UnchangedTest full = new UnchangedTest("full", UnchangedTest::full);
        full.refusedAlways();
        full.refusedWithShips();
        full.refusedFull();
        new UnchangedTest("nearly full", UnchangedTest::nearlyFull).refusedNearlyFull();
        new UnchangedTest("hour 2999", () -> toTheEnd(2999)).refusedBeyond(2);
        UnchangedTest last = new UnchangedTest("hour 3000", () -> toTheEnd(3000));
        last.refusedAlways();
        last.refusedWithShips();
        last.refusedBeyond(1);
        would();
        DUE.end();
    }
}
