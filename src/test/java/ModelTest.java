import java.util.Random;

/** Long runs of calls, the same ones each time, on the class and on the model: promises 1 to 35. */
public final class ModelTest {
    private static final int RUNS = 5000;
    private static final int CALLS = 512;
    // The most calls of one step, which writes a text, and of a look at all ships.
    private static final int MOST_OF_STEP = 40;
    private static final int MOST_OF_ALL = 11 + 6 * 15;
    private static final Due DUE = new Due("ModelTest");

    private final Random random;
    private final String run;
    private final FleetDelegates x = new FleetDelegates();
    private final Model m = new Model();
    private int calls = 0;

    private ModelTest(int run) {
        this.random = new Random(run);
        this.run = "run " + run + ", call ";
    }

    private void due(String call, long got, long want) {
        calls++;
        DUE.due(run + call, got, want);
    }

    /** From least to most, now and then one beside, now and then anything. */
    private int in(int least, int most) {
        int how = random.nextInt(60);
        if (how == 0) {
            return least - 1;
        }
        if (how == 1) {
            return most + 1;
        }
        if (how == 2) {
            return random.nextInt();
        }
        if (how < 8) {
            return random.nextBoolean() ? least : most;
        }
        return least + random.nextInt(most - least + 1);
    }

    private int ship() {
        return in(0, Math.max(0, m.ships.size() - 1));
    }

    private int hour() {
        int how = random.nextInt(4);
        return how == 0 ? in(0, 3000) : how == 1 ? in(0, 30) : Math.max(0, m.hour + random.nextInt(9) - 4);
    }

    private void addShip(int i) {
        int near = random.nextInt(3);
        int cell = near == 0 ? in(0, 63) : in(0, 1) * 8 + in(0, 2) + 24 * near;
        int men = random.nextInt(3) == 0 ? in(1, 900) : in(1, 5) * 100 + in(-1, 1);
        int most = random.nextInt(3) == 0 ? 9000 : 300;
        int beef = in(0, most), water = in(0, most), want = in(0, 100), will = in(20, 100);
        due(i + " ship", x.ship(cell, men, beef, water, want, will), m.ship(cell, men, beef, water, want, will));
    }

    private void addSome(int i) {
        int s = ship(), a = in(0, 63), b = in(0, 7), c = in(1, 50), skills = in(0, 15), offer = in(0, 100);
        switch (random.nextInt(5)) {
            case 0 -> due(i + " paper", x.paper(s, offer), m.paper(s, offer));
            case 1 -> due(i + " fellow", x.fellow(s, a), m.fellow(s, a));
            case 2 -> due(i + " battery", x.battery(a, b / 2, c), m.battery(a, b / 2, c));
            case 3 -> due(i + " officer", x.officer(s, skills), m.officer(s, skills));
            default -> addShip(i);
        }
    }

    private void setSome(int i) {
        int what = in(0, 3);
        int v = what == 3 ? random.nextInt(5) == 0 ? in(0, 16777215) : 0 : what == 2 ? in(0, 60) : in(0, what == 1 ? 3 : 7);
        due(i + " set", x.set(what, v), m.set(what, v));
    }

    private void sail(int i) {
        int s = ship(), n = in(1, 24), set = in(0, (1 << m.officers.size()) - 1), skills = in(0, 15);
        boolean is = random.nextInt(3) != 0;
        switch (random.nextInt(5)) {
            case 0 -> due(i + " slip", x.slip(s, n), m.slip(s, n));
            case 1 -> due(i + " list", x.list(set, is), m.list(set, is));
            case 2 -> due(i + " needs", x.needs(s, skills), m.needs(s, skills));
            case 3 -> due(i + " sailed", x.sailed(), m.sailed());
            default -> due(i + " asked", x.asked(s), m.asked(s));
        }
    }

    private void boat(int i) {
        int from = ship(), to = ship(), most = random.nextInt(3) == 0 ? 900 : 40;
        int beef = in(0, most), water = in(0, most), paper = in(-1, Math.max(0, m.offers.size() - 1));
        due(i + " boat", x.boat(from, to, beef, water, paper), m.boat(from, to, beef, water, paper));
    }

    private void pass(int i) {
        int how = random.nextInt(12);
        int n = how == 0 ? in(1, 60) : how < 3 ? in(1, 8) : 1;
        due(i + " hours(" + n + ")", x.hours(n), m.hours(n));
    }

    private void ask(int i) {
        int s = ship(), o = ship(), h = hour(), offer = in(-1, 100), n = in(1, 60), v = in(0, 2);
        switch (random.nextInt(5)) {
            case 0 -> due(i + " signal", x.signal(s, v), m.signal(s, v));
            case 1 -> due(i + " knows", x.knows(s, h), m.knows(s, h));
            case 2 -> due(i + " saw", x.saw(s, o), m.saw(s, o));
            case 3 -> due(i + " at", x.at(s, v), m.at(s, v));
            default -> due(i + " would", x.would(s, offer, n), m.would(s, offer, n));
        }
    }

    private String number(int most) {
        int how = random.nextInt(40);
        String n = Integer.toString(Math.max(0, how == 0 ? most + 1 : in(0, most)));
        return how == 1 ? "0" + n : how == 2 ? "0000" + n : n;
    }

    private String shipName() {
        return random.nextInt(3) == 0 ? "all" : number(Math.max(0, m.ships.size() - 1));
    }

    private String article() {
        StringBuilder s = new StringBuilder();
        switch (random.nextInt(5)) {
            case 0, 1 -> s.append("owe ").append(shipName()).append(' ').append(number(random.nextBoolean() ? 2 : 99));
            case 2 -> s.append("voice ").append(shipName()).append(' ').append(number(random.nextBoolean() ? 5 : 99));
            case 3 -> s.append("carry ").append(number(random.nextBoolean() ? 9 : 99));
            default -> s.append("pardon ").append(shipName()).append(random.nextInt(3) > 0 ? " but " + number(5) : "");
        }
        int hours = random.nextInt(3);
        int from = random.nextBoolean() ? m.hour + random.nextInt(5) : random.nextInt(3001);
        if (hours > 0) {
            s.append(" from ").append(from);
        }
        if (hours > 1) {
            s.append(" to ").append(Math.min(3000, from - random.nextInt(20) / 19 + random.nextInt(30)));
        }
        return s.toString();
    }

    private String text() {
        StringBuilder s = new StringBuilder();
        int articles = random.nextInt(12) == 0 ? random.nextInt(14) : 1 + random.nextInt(6);
        for (int i = 0; i < articles; i++) {
            s.append(i == 0 ? "" : random.nextInt(4) == 0 ? " ; " : ";").append(articles > 8 ? "carry " + i % 10 : article());
        }
        String extra = "; 0azA-19\u0000\u00ffZ{`/:";
        for (int i = random.nextInt(6) - 3; i > 0 && s.length() > 0; i--) {
            int place = random.nextInt(s.length());
            switch (random.nextInt(3)) {
                case 0 -> s.deleteCharAt(place);
                case 1 -> s.insert(place, extra.charAt(random.nextInt(extra.length())));
                default -> s.setLength(place);
            }
        }
        return s.toString();
    }

    private void write(int i) {
        String s = text();
        if (random.nextInt(8) > 0) {
            due(i + " erase", x.erase(), m.erase());
        }
        for (int place = 0; place < s.length(); place += 8) {
            int n = Math.min(8, s.length() - place);
            long bytes = random.nextLong();
            for (int k = 0; k < n; k++) {
                bytes = bytes & ~(255L << 8 * k) | (long) s.charAt(place + k) << 8 * k;
            }
            due(i + " write", x.write(bytes, n), m.write(bytes, n));
        }
        int n = in(1, 8), book = in(0, 1);
        if (random.nextInt(20) == 0) {
            due(i + " write", x.write(i, n), m.write(i, n));
        }
        due(i + " fault of '" + m.text + "'", x.fault(), m.fault());
        due(i + " articles of '" + m.text + "'", x.articles(book), m.articles(book));
    }

    private void byBooks(int i) {
        int book = in(0, 1), s = ship(), f = in(0, Math.max(0, m.fellows.size() - 1)), h = hour();
        switch (random.nextInt(5)) {
            case 0 -> due(i + " owed", x.owed(book, s, h), m.owed(book, s, h));
            case 1 -> due(i + " voices", x.voices(book, s, h), m.voices(book, s, h));
            case 2 -> due(i + " unlike", x.unlike(s, h), m.unlike(s, h));
            case 3 -> due(i + " named", x.named(book, h), m.named(book, h));
            default -> due(i + " word", x.word(book, f, h), m.word(book, f, h));
        }
    }

    private void vote(int i) {
        int offer = in(0, 100), what = in(0, 2), set = in(0, (1 << m.ships.size()) - 1);
        switch (random.nextInt(4)) {
            case 0 -> due(i + " vote", x.vote(offer, what), m.vote(offer, what));
            case 1 -> due(i + " least(0)", x.least(0), m.least(0));
            case 2 -> due(i + " least", x.least(set), m.least(set));
            default -> due(i + " sharing", x.sharing(set), m.sharing(set));
        }
    }

    private void plan(int i) {
        int a = in(0, 4), one = in(-20, 20), two = in(-20, 20), n = in(1, 5), g = random.nextBoolean() ? in(-100, 100) : in(-2, 30);
        if (random.nextBoolean()) {
            one = Math.abs(one % 21);
            two = Math.abs(two % 21);
        }
        switch (random.nextInt(3)) {
            case 0 -> due(i + " ask", x.ask(a, one, two), m.ask(a, one, two));
            case 1 -> due(i + " reaches", x.reaches(n, g), m.reaches(n, g));
            default -> due(i + " begin", x.begin(n, g), m.begin(n, g));
        }
    }

    private void all(int i) {
        for (int what = -1; what <= 9; what++) {
            due(i + " count(" + what + ")", x.count(what), m.count(what));
        }
        for (int s = 0; s < m.ships.size(); s++) {
            for (int what = 0; what < 8; what++) {
                due(i + " at(" + s + ", " + what + ")", x.at(s, what), m.at(s, what));
            }
            for (int o = 0; o < m.ships.size(); o++) {
                due(i + " saw(" + s + ", " + o + ")", x.saw(s, o), m.saw(s, o));
            }
            due(i + " knows(" + s + ")", x.knows(s, m.hour), m.knows(s, m.hour));
        }
    }

    private void step(int i) {
        switch (random.nextInt(12)) {
            case 0 -> addSome(i);
            case 1 -> setSome(i);
            case 2 -> sail(i);
            case 3 -> boat(i);
            case 4, 5 -> pass(i);
            case 6 -> ask(i);
            case 7 -> write(i);
            case 8, 9 -> byBooks(i);
            case 10 -> vote(i);
            default -> plan(i);
        }
    }

    /** Up to the full numbers of fellows, officers, papers and batteries. */
    private void addMany() {
        for (int f = 0; f < 17; f++) {
            int s = ship(), doings = in(0, 63);
            due("fellow", x.fellow(s, doings), m.fellow(s, doings));
        }
        for (int o = 0; o < 13; o++) {
            int s = random.nextInt(2), skills = in(0, 15);
            due("officer", x.officer(s, skills), m.officer(s, skills));
        }
        for (int p = 0; p < 7; p++) {
            int s = ship(), offer = in(0, 100), cell = in(0, 63), range = in(0, 3), guns = in(1, 50);
            due("paper", x.paper(s, offer), m.paper(s, offer));
            due("battery", x.battery(cell, range, guns), m.battery(cell, range, guns));
        }
    }

    private void passMost() {
        for (int i = 0; i < 49; i++) {
            due("hours", x.hours(60), m.hours(60));
        }
    }

    /** As many steps as an object is used for, and a look at all behind every 64 of them and at the end. */
    private void go(int ships, boolean isLate, boolean isFull) {
        for (int i = 0; i < ships; i++) {
            addShip(-1);
        }
        if (isLate) {
            passMost();
        }
        if (isFull) {
            addMany();
        }
        for (int i = 0; calls + MOST_OF_STEP + 2 * MOST_OF_ALL <= CALLS; i++) {
            step(i);
            if (i % 64 == 63) {
                all(i);
            }
        }
        all(-2);
        if (calls > CALLS) {
            DUE.due(run + "calls of one object", calls, CALLS);
        }
    }

    public static void main(String[] args) {
        for (int run = 0; run < RUNS; run++) {
            new ModelTest(run).go(run % 7, run % 10 == 9, run % 4 == 3);
        }
        DUE.end();
    }
}
