import java.util.ArrayList;
import java.util.List;
import java.util.TreeSet;
import java.util.regex.Matcher;
import java.util.regex.Pattern;

/** The document a second time, by its words and by trying all, with no eye to the room it takes. */
final class Model {
    static final int NONE = -1, UNKNOWN = -2, OUTSIDE = -3, NOT = -4, FULL = -5;

    static final class Ship {
        int cell, men, beef, water, want, will, yielded = NONE, shows = NONE, needs = 15;
        int[] knew = {9999, 9999, 9999, 9999, 9999, 9999};
        int[] saw = {NONE, NONE, NONE, NONE, NONE, NONE};

        int eats() {
            return men / 100 + (men % 100 == 0 ? 0 : 1);
        }

        void will(int more) {
            will += more;
            if (will < 0) will = 0;
            if (will > 100) will = 100;
        }

        void read(int offer) {
            int less = 5 * (offer - want + 5);
            if (less > 40) less = 40;
            if (less > 0) will(-less);
        }

        int threshold() {
            return want - (100 - will) / 10;
        }

        Ship copy() {
            Ship s = new Ship();
            s.cell = cell;
            s.men = men;
            s.beef = beef;
            s.water = water;
            s.want = want;
            s.will = will;
            s.yielded = yielded;
            s.shows = shows;
            s.needs = needs;
            s.knew = knew.clone();
            s.saw = saw.clone();
            return s;
        }
    }

    record Boat(int due, int to, int beef, int water, int paper) { }

    record Article(String kind, int ship, int n, int from, int to) {
        boolean is(String k, int s, int hour) {
            return kind.equals(k) && (ship == NONE || ship == s) && hour >= from && hour <= to;
        }
    }

    record Fellow(int ship, int doings) { }

    record Battery(int cell, int range, int guns) { }

    static final class Officer {
        final int ship, skills;
        boolean ashore;

        Officer(int ship, int skills) {
            this.ship = ship;
            this.skills = skills;
        }
    }

    int hour = 0;
    int[] told = {3, 0, 30, 0};
    List<Ship> ships = new ArrayList<>();
    List<Integer> offers = new ArrayList<>();
    List<Boat> boats = new ArrayList<>();
    StringBuilder text = new StringBuilder();
    List<List<Article>> books = new ArrayList<>(List.of(List.of(), List.of()));
    List<Article> draft;
    List<Fellow> fellows = new ArrayList<>();
    List<Battery> batteries = new ArrayList<>();
    List<Officer> officers = new ArrayList<>();
    int[][] answers = new int[5][2];

    static boolean in(int v, int least, int most) {
        return least <= v && v <= most;
    }

    boolean isShip(int s) {
        return in(s, 0, ships.size() - 1);
    }

    static int far(int a, int b) {
        return Math.max(Math.abs(a % 8 - b % 8), Math.abs(a / 8 - b / 8));
    }

    int ship(int cell, int men, int beef, int water, int want, int will) {
        if (!in(cell, 0, 63)) return UNKNOWN;
        if (!in(men, 1, 900) || !in(beef, 0, 9000) || !in(water, 0, 9000)) return OUTSIDE;
        if (!in(want, 0, 100) || !in(will, 0, 100)) return OUTSIDE;
        if (ships.size() == 6) return FULL;
        Ship s = new Ship();
        s.cell = cell;
        s.men = men;
        s.beef = beef;
        s.water = water;
        s.want = want;
        s.will = will;
        ships.add(s);
        return ships.size() - 1;
    }

    int set(int what, int v) {
        if (!in(what, 0, 3)) return OUTSIDE;
        if (!in(v, 0, new int[] {7, 3, 100, 16777215}[what])) return OUTSIDE;
        int was = told[what];
        told[what] = v;
        return was;
    }

    int paper(int ship, int offer) {
        if (!isShip(ship)) return UNKNOWN;
        if (!in(offer, 0, 100)) return OUTSIDE;
        if (offers.size() == 6) return FULL;
        offers.add(offer);
        ships.get(ship).knew[offers.size() - 1] = hour;
        return offers.size() - 1;
    }

    int boat(int from, int to, int beef, int water, int paper) {
        if (!isShip(from) || !isShip(to)) return UNKNOWN;
        if (paper != NONE && !in(paper, 0, offers.size() - 1)) return UNKNOWN;
        if (from == to || !in(beef, 0, 900) || !in(water, 0, 900)) return OUTSIDE;
        Ship s = ships.get(from);
        if (s.beef < beef || s.water < water || paper != NONE && s.knew[paper] > hour) return NOT;
        if (boats.size() == 12) return FULL;
        s.beef -= beef;
        s.water -= water;
        boats.add(new Boat(hour + far(s.cell, ships.get(to).cell), to, beef, water, paper));
        return boats.get(boats.size() - 1).due();
    }

    int signal(int ship, int v) {
        if (!isShip(ship)) return UNKNOWN;
        if (!in(v, 0, 2)) return OUTSIDE;
        Ship s = ships.get(ship);
        if (s.yielded != NONE) return NOT;
        int was = s.shows;
        s.shows = v;
        return was;
    }

    int hours(int n) {
        if (!in(n, 1, 60) || hour + n > 3000) return OUTSIDE;
        for (int i = 0; i < n; i++) pass();
        return hour;
    }

    void pass() {
        for (Ship s : ships) {
            int beefLess = s.beef < s.eats() ? 3 : 0;
            int waterLess = s.water < s.eats() ? 5 : 0;
            s.will(-beefLess - waterLess);
            s.beef -= beefLess > 0 ? s.beef : s.eats();
            s.water -= waterLess > 0 ? s.water : s.eats();
        }
        for (Boat b : new ArrayList<>(boats)) {
            if (b.due() == hour) {
                boats.remove(b);
                Ship s = ships.get(b.to());
                s.beef = Math.min(9000, s.beef + b.beef());
                s.water = Math.min(9000, s.water + b.water());
                if (b.paper() != NONE && s.knew[b.paper()] > hour) {
                    s.knew[b.paper()] = hour;
                    s.read(offers.get(b.paper()));
                }
            }
        }
        for (Ship viewer : ships) {
            for (Ship s : ships) {
                int v = s.yielded != NONE ? 3 : s.shows;
                boolean clear = (told[3] >> hour % 24 & 1) == 0;
                if (v != NONE && s != viewer && clear && far(s.cell, viewer.cell) <= told[0]) {
                    int n = ships.indexOf(s);
                    if (v == 3 && viewer.saw[n] != 3) viewer.will(-10);
                    if (v == 2) viewer.will(4);
                    viewer.saw[n] = v;
                }
            }
        }
        for (Ship s : ships) {
            s.shows = NONE;
            if (s.yielded == NONE && s.will < told[2]) s.yielded = hour;
        }
        hour++;
    }

    int at(int ship, int what) {
        if (!isShip(ship)) return UNKNOWN;
        if (!in(what, 0, 7)) return OUTSIDE;
        Ship s = ships.get(ship);
        int[] all = {s.men, s.beef, s.water, s.want, s.will, s.yielded, s.eats(), lasts(s.beef, s.water, s.eats())};
        return all[what];
    }

    static int lasts(int beef, int water, int eats) {
        int n = 0;
        while (beef >= eats && water >= eats) {
            beef -= eats;
            water -= eats;
            n++;
        }
        return n;
    }

    int knows(int ship, int asOf) {
        if (!isShip(ship)) return UNKNOWN;
        if (!in(asOf, 0, 3000)) return OUTSIDE;
        int bits = 0;
        for (int p = 0; p < 6; p++) bits |= (ships.get(ship).knew[p] <= asOf ? 1 : 0) << p;
        return bits;
    }

    int saw(int ship, int other) {
        if (!isShip(ship) || !isShip(other) || ship == other) return UNKNOWN;
        return ships.get(ship).saw[other];
    }

    int would(int ship, int offer, int n) {
        if (!isShip(ship)) return UNKNOWN;
        if (!in(offer, -1, 100) || !in(n, 1, 60) || hour + n > 3000) return OUTSIDE;
        Model other = new Model();
        other.hour = hour;
        other.told = told.clone();
        for (Ship s : ships) other.ships.add(s.copy());
        other.offers.addAll(offers);
        other.boats.addAll(boats);
        if (offer >= 0) other.ships.get(ship).read(offer);
        other.hours(n);
        int bits = 0;
        for (int s = 0; s < ships.size(); s++) bits |= (other.ships.get(s).yielded != NONE ? 1 : 0) << s;
        return bits;
    }

    int write(long bytes, int n) {
        if (!in(n, 1, 8)) return OUTSIDE;
        if (text.length() + n > 200) return FULL;
        for (int i = 0; i < n; i++) text.append((char) (bytes >> 8 * i & 255));
        return text.length();
    }

    int erase() {
        int was = text.length();
        text.setLength(0);
        return was;
    }

    /** Goes through the tokens by the state in which it stands, a word for what came last. */
    int fault() {
        Matcher m = Pattern.compile("[a-z]+|[0-9]+|[^ ]", Pattern.DOTALL).matcher(text);
        List<Article> read = new ArrayList<>();
        String state = "begin";
        String kind = "";
        int ship = NONE, n = NONE, from = 0, to = 3000;
        while (m.find()) {
            String t = m.group();
            int number = t.matches("[0-9]{1,4}") ? Integer.parseInt(t) : NONE;
            boolean open = List.of("number", "pardoned", "but", "hour", "last").contains(state);
            String next = null;
            if (state.equals("begin") && List.of("owe", "voice", "carry", "pardon").contains(t)) {
                kind = t;
                ship = NONE;
                n = NONE;
                from = 0;
                to = 3000;
                next = t.equals("carry") ? "n" : "s";
            } else if (state.equals("s") && (t.equals("all") || number >= 0 && number < ships.size())) {
                ship = number;
                next = kind.equals("pardon") ? "pardoned" : "n";
            } else if (state.equals("n") && in(number, 0, 99)) {
                n = number;
                next = "number";
            } else if (state.equals("pardoned") && t.equals("but")) {
                next = "k";
            } else if (state.equals("k") && in(number, 0, 5)) {
                n = number;
                next = "but";
            } else if (open && t.equals("from") && !state.equals("hour") && !state.equals("last")) {
                next = "h";
            } else if (state.equals("h") && in(number, 0, 3000)) {
                from = number;
                next = "hour";
            } else if (state.equals("hour") && t.equals("to")) {
                next = "h2";
            } else if (state.equals("h2") && in(number, from, 3000)) {
                to = number;
                next = "last";
            } else if (open && t.equals(";") && read.size() < 9) {
                read.add(new Article(kind, ship, n, from, to));
                next = "begin";
            }
            if (next == null) return m.start();
            state = next;
        }
        if (!List.of("number", "pardoned", "but", "hour", "last").contains(state)) return text.length();
        read.add(new Article(kind, ship, n, from, to));
        draft = read;
        return NONE;
    }

    int articles(int book) {
        if (!in(book, 0, 1)) return UNKNOWN;
        if (fault() != NONE) return NOT;
        books.set(book, draft);
        text.setLength(0);
        return draft.size();
    }

    int owed(int book, int ship, int at) {
        if (!in(book, 0, 1) || !isShip(ship)) return UNKNOWN;
        if (!in(at, 0, 3000)) return OUTSIDE;
        int owed = 0;
        for (Article a : books.get(book)) if (a.is("owe", ship, at)) owed += ships.get(ship).men * a.n();
        return owed;
    }

    int voices(int book, int ship, int at) {
        if (!in(book, 0, 1) || !isShip(ship)) return UNKNOWN;
        if (!in(at, 0, 3000)) return OUTSIDE;
        int voices = 1;
        for (Article a : books.get(book)) if (a.is("voice", ship, at)) voices = a.n();
        return voices;
    }

    int unlike(int ship, int at) {
        if (!isShip(ship)) return UNKNOWN;
        if (!in(at, 0, 3000)) return OUTSIDE;
        for (int h = at; h <= 3000; h++) if (owed(0, ship, h) != owed(1, ship, h)) return h;
        return NONE;
    }

    int fellow(int ship, int doings) {
        if (!isShip(ship)) return UNKNOWN;
        if (!in(doings, 0, 63)) return OUTSIDE;
        if (fellows.size() == 16) return FULL;
        fellows.add(new Fellow(ship, doings));
        return fellows.size() - 1;
    }

    boolean pardoned(int book, int fellow, int at, int withoutBut) {
        Fellow f = fellows.get(fellow);
        for (Article a : books.get(book)) {
            boolean free = a.n() == NONE || a.n() == withoutBut || (f.doings() >> a.n() & 1) == 0;
            if (a.is("pardon", f.ship(), at) && free) return true;
        }
        return false;
    }

    int named(int book, int at) {
        if (!in(book, 0, 1)) return UNKNOWN;
        if (!in(at, 0, 3000)) return OUTSIDE;
        int bits = 0;
        for (int f = 0; f < fellows.size(); f++) bits |= (pardoned(book, f, at, NONE) ? 0 : 1) << f;
        return bits;
    }

    int word(int book, int fellow, int at) {
        if (!in(book, 0, 1) || !in(fellow, 0, fellows.size() - 1)) return UNKNOWN;
        if (!in(at, 0, 3000)) return OUTSIDE;
        if (pardoned(book, fellow, at, NONE)) return NOT;
        for (int k = 0; k <= 5; k++) if (pardoned(book, fellow, at, k)) return k;
        return NONE;
    }

    int vote(int offer, int what) {
        if (!in(offer, 0, 100) || !in(what, 0, 2)) return OUTSIDE;
        int votes = 0, all = 0, carry = NONE;
        for (int s = 0; s < ships.size(); s++) {
            if (ships.get(s).yielded == NONE) {
                all += voices(0, s, hour);
                if (offer >= ships.get(s).threshold()) votes += voices(0, s, hour);
            }
        }
        for (Article a : books.get(0)) if (a.is("carry", NONE, hour)) carry = a.n();
        if (carry == NONE) {
            carry = 0;
            while (2 * carry <= all) carry++;
        }
        return what == 0 ? votes : what == 1 ? carry : votes >= carry ? 1 : 0;
    }

    int least(int set) {
        if (set < 0 || set >= 1 << ships.size()) return OUTSIDE;
        for (int n = 0; n <= 100; n++) {
            boolean all = true;
            for (int s = 0; s < ships.size(); s++) {
                Ship of = ships.get(s);
                if ((set >> s & 1) == 1 && of.yielded == NONE && n < of.threshold()) all = false;
            }
            if (set == 0 ? vote(n, 2) == 1 : all) return n;
        }
        return NONE;
    }

    int sharing(int set) {
        if (set <= 0 || set >= 1 << ships.size()) return OUTSIDE;
        int beef = 0, water = 0, eats = 0;
        for (int s = 0; s < ships.size(); s++) {
            if ((set >> s & 1) == 1) {
                beef += ships.get(s).beef;
                water += ships.get(s).water;
                eats += ships.get(s).eats();
            }
        }
        return lasts(beef, water, eats);
    }

    int battery(int cell, int range, int guns) {
        if (!in(cell, 0, 63)) return UNKNOWN;
        if (!in(range, 0, 7) || !in(guns, 1, 50)) return OUTSIDE;
        if (batteries.size() == 4) return FULL;
        batteries.add(new Battery(cell, range, guns));
        return batteries.size();
    }

    int slip(int ship, int n) {
        if (!isShip(ship)) return UNKNOWN;
        if (!in(n, 1, 24)) return OUTSIDE;
        int cell = ships.get(ship).cell;
        int hits = way(cell % 8, cell / 8, hour, n, new Integer[25][64]);
        return hits == 99999 ? NONE : hits;
    }

    /** From where a ship is not yet away, with so many hours left. */
    int way(int x, int y, int h, int left, Integer[][] known) {
        if (left == 0) return 99999;
        if (known[left][8 * y + x] != null) return known[left][8 * y + x];
        int best = 99999;
        int[][] steps = {{0, 0}, {1, 0}, {0, 1}, {-1, 0}, {0, -1}};
        int[][] against = {{-1, 0}, {0, -1}, {1, 0}, {0, 1}};
        for (int[] step : steps) {
            boolean stays = step[0] == 0 && step[1] == 0;
            boolean windy = step[0] == against[told[1]][0] && step[1] == against[told[1]][1];
            int toX = x + step[0], toY = y + step[1];
            if (!in(toX, 0, 7) || !in(toY, 0, 7) || !stays && (windy || h % 12 < 6)) continue;
            int cost = 0;
            for (Battery b : batteries) if (far(b.cell(), 8 * toY + toX) <= b.range()) cost += b.guns();
            int rest = toY == 7 ? 0 : way(toX, toY, h + 1, left - 1, known);
            if (rest < 99999) best = Math.min(best, cost + rest);
        }
        known[left][8 * y + x] = best;
        return best;
    }

    int officer(int ship, int skills) {
        if (!isShip(ship)) return UNKNOWN;
        if (!in(skills, 0, 15)) return OUTSIDE;
        if (officers.size() == 12) return FULL;
        officers.add(new Officer(ship, skills));
        return officers.size() - 1;
    }

    int list(int set, boolean is) {
        if (set < 0 || set >= 1 << officers.size()) return OUTSIDE;
        int did = 0;
        for (int o = 0; o < officers.size(); o++) {
            if ((set >> o & 1) == 1 && officers.get(o).ashore != is) {
                officers.get(o).ashore = is;
                did++;
            }
        }
        return did;
    }

    int needs(int ship, int skills) {
        if (!isShip(ship)) return UNKNOWN;
        if (!in(skills, 0, 15)) return OUTSIDE;
        int was = ships.get(ship).needs;
        ships.get(ship).needs = skills;
        return was;
    }

    boolean canBeSailed(int ship, int back) {
        int skills = 0;
        for (int o = 0; o < officers.size(); o++) {
            Officer of = officers.get(o);
            if (of.ship == ship && (!of.ashore || (back >> o & 1) == 1)) skills |= of.skills;
        }
        return (ships.get(ship).needs & ~skills) == 0;
    }

    int sailed() {
        int bits = 0;
        for (int s = 0; s < ships.size(); s++) bits |= (canBeSailed(s, 0) ? 1 : 0) << s;
        return bits;
    }

    int asked(int ship) {
        if (!isShip(ship)) return UNKNOWN;
        int best = NONE;
        for (int set = 0; set < 1 << officers.size(); set++) {
            boolean ofIt = true;
            for (int o = 0; o < officers.size(); o++) {
                Officer of = officers.get(o);
                if ((set >> o & 1) == 1 && (of.ship != ship || !of.ashore)) ofIt = false;
            }
            boolean fewer = best == NONE || Integer.bitCount(set) < Integer.bitCount(best);
            if (ofIt && fewer && canBeSailed(ship, set)) best = set;
        }
        return best;
    }

    int ask(int ask, int one, int two) {
        if (!in(ask, 0, 4)) return UNKNOWN;
        if (!in(one, -20, 20) || !in(two, -20, 20)) return OUTSIDE;
        answers[ask][0] = one;
        answers[ask][1] = two;
        return 1;
    }

    boolean reached(int standing, int asked, int left, int g) {
        if (standing >= g) return true;
        if (left == 0) return false;
        for (int a = 0; a < 5; a++) if ((asked >> a & 1) == 0 && reachedBy(a, standing, asked, left, g)) return true;
        return false;
    }

    boolean reachedBy(int a, int standing, int asked, int left, int g) {
        return reached(standing + answers[a][0], asked | 1 << a, left - 1, g)
            && reached(standing + answers[a][1], asked | 1 << a, left - 1, g);
    }

    int reaches(int n, int g) {
        if (!in(n, 1, 5) || !in(g, -100, 100)) return OUTSIDE;
        return reached(0, 0, n, g) ? 1 : 0;
    }

    int begin(int n, int g) {
        if (!in(n, 1, 5) || !in(g, -100, 100)) return OUTSIDE;
        if (0 >= g) return NONE;
        for (int a = 0; a < 5; a++) if (reachedBy(a, 0, 0, n, g)) return a;
        return NONE;
    }

    int count(int what) {
        TreeSet<Integer> yielded = new TreeSet<>();
        int ashore = 0;
        for (int s = 0; s < ships.size(); s++) if (ships.get(s).yielded != NONE) yielded.add(s);
        for (Officer o : officers) ashore += o.ashore ? 1 : 0;
        int[] all = {ships.size(), yielded.size(), hour, boats.size(), offers.size(), fellows.size(), officers.size(), ashore, text.length()};
        return in(what, 0, 8) ? all[what] : OUTSIDE;
    }
}
