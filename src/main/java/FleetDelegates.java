/** Delegates of a fleet at anchor: ships and their hours, articles, votes, slipping, officers and plans. */
public final class FleetDelegates {
    public static final int NONE = -1, UNKNOWN = -2, OUTSIDE = -3, NOT = -4, FULL = -5;

    private static final int SHIPS = 6;
    private static final int PAPERS = 6;
    private static final int BOATS = 12;
    private static final int BYTES = 200;
    private static final int MOST_WRITTEN = 8;
    private static final int ARTICLES = 10;
    private static final int FELLOWS = 16;
    private static final int BATTERIES = 4;
    private static final int OFFICERS = 12;
    private static final int ASKS = 5;

    private static final int CELLS = 64;
    private static final int SIDE = 8;
    private static final int HUNDRED = 100;
    private static final int MOST_MEN = 900;
    private static final int MOST_STORES = 9000;
    private static final int MOST_IN_BOAT = 900;
    private static final int LAST_HOUR = 3000;
    private static final int MOST_HOURS = 60;
    private static final int DAY = 24;
    private static final int WINDS = 4;
    private static final int MOST_FAR = 7;
    private static final int SIGHT = 0;
    private static final int WIND = 1;
    private static final int LINE = 2;
    private static final int FOG = 3;
    private static final int ALL_FOG = (1 << DAY) - 1;
    private static final int[] MOST_TOLD = {MOST_FAR, WINDS - 1, HUNDRED, ALL_FOG};
    private static final int YIELD_SIGNAL = 3;
    private static final int MOST_GUNS = 50;
    private static final int ALL_DOINGS = 63;
    private static final int MOST_DOING = 5;
    private static final int MOST_NUMBER = 99;
    private static final int SKILLS = 16;
    private static final int MOST_ANSWER = 20;

    private final Fleet fleet = new Fleet();
    private final Fleet trial = new Fleet();
    private final Text text = new Text();
    private final Reader reader = new Reader(text);
    private Book fleetBook = new Book();
    private Book boardBook = new Book();
    private Book draft = new Book();
    private final Fellows fellows = new Fellows();
    private final Batteries batteries = new Batteries();
    private final Officers officers = new Officers();
    private final Plan plan = new Plan();

    public FleetDelegates() {
    }

    // ---- ships, hours

    public int ship(int cell, int men, int beef, int water, int want, int will) {
        if (!isCell(cell)) {
            return UNKNOWN;
        }
        if (!within(men, 1, MOST_MEN) || !within(beef, 0, MOST_STORES) || !within(water, 0, MOST_STORES)
                || !within(want, 0, HUNDRED) || !within(will, 0, HUNDRED)) {
            return OUTSIDE;
        }
        return fleet.addShip(cell, men, beef, water, want, will);
    }

    public int set(int what, int v) {
        if (!within(what, 0, MOST_TOLD.length - 1) || !within(v, 0, MOST_TOLD[what])) {
            return OUTSIDE;
        }
        int was = fleet.told[what];
        fleet.told[what] = v;
        return was;
    }

    public int paper(int ship, int offer) {
        if (!isShip(ship)) {
            return UNKNOWN;
        }
        if (!within(offer, 0, HUNDRED)) {
            return OUTSIDE;
        }
        return fleet.addPaper(ship, offer);
    }

    public int boat(int from, int to, int beef, int water, int paper) {
        if (!isShip(from) || !isShip(to) || !within(paper, NONE, fleet.papers - 1)) {
            return UNKNOWN;
        }
        if (from == to || !within(beef, 0, MOST_IN_BOAT) || !within(water, 0, MOST_IN_BOAT)) {
            return OUTSIDE;
        }
        if (beef > fleet.beef[from] || water > fleet.water[from]) {
            return NOT;
        }
        if (paper != NONE && !fleet.isKnown(from, paper, fleet.hour)) {
            return NOT;
        }
        return fleet.sendBoat(from, to, beef, water, paper);
    }

    public int signal(int ship, int v) {
        if (!isShip(ship)) {
            return UNKNOWN;
        }
        if (!within(v, 0, YIELD_SIGNAL - 1)) {
            return OUTSIDE;
        }
        if (fleet.hasYielded(ship)) {
            return NOT;
        }
        int was = fleet.shown[ship];
        fleet.shown[ship] = v;
        return was;
    }

    public int hours(int n) {
        if (!canPass(n)) {
            return OUTSIDE;
        }
        fleet.passHours(n);
        return fleet.hour;
    }

    public int at(int ship, int what) {
        if (!isShip(ship)) {
            return UNKNOWN;
        }
        switch (what) {
            case 0:
                return fleet.men[ship];
            case 1:
                return fleet.beef[ship];
            case 2:
                return fleet.water[ship];
            case 3:
                return fleet.want[ship];
            case 4:
                return fleet.will[ship];
            case 5:
                return fleet.yielded[ship];
            case 6:
                return fleet.eats(ship);
            case 7:
                return hoursOf(fleet.beef[ship], fleet.water[ship], fleet.eats(ship));
            default:
                return OUTSIDE;
        }
    }

    public int knows(int ship, int hour) {
        if (!isShip(ship)) {
            return UNKNOWN;
        }
        if (!isHour(hour)) {
            return OUTSIDE;
        }
        int known = 0;
        for (int p = 0; p < fleet.papers; p++) {
            if (fleet.isKnown(ship, p, hour)) {
                known |= 1 << p;
            }
        }
        return known;
    }

    public int saw(int ship, int other) {
        if (!isShip(ship) || !isShip(other) || ship == other) {
            return UNKNOWN;
        }
        return fleet.lastSaw[ship * SHIPS + other];
    }

    public int would(int ship, int offer, int n) {
        if (!isShip(ship)) {
            return UNKNOWN;
        }
        if (!within(offer, NONE, HUNDRED) || !canPass(n)) {
            return OUTSIDE;
        }
        trial.become(fleet);
        if (offer != NONE) {
            trial.read(ship, offer);
        }
        trial.passHours(n);
        return trial.yieldedSet();
    }

    // ---- articles

    public int write(long bytes, int n) {
        if (!within(n, 1, MOST_WRITTEN)) {
            return OUTSIDE;
        }
        if (text.length + n > BYTES) {
            return FULL;
        }
        for (int i = 0; i < n; i++) {
            text.append((int) (bytes >> (8 * i)) & 255);
        }
        return text.length;
    }

    public int erase() {
        int was = text.length;
        text.length = 0;
        return was;
    }

    public int fault() {
        return reader.faultOf(fleet.ships, draft);
    }

    public int articles(int book) {
        if (!isBook(book)) {
            return UNKNOWN;
        }
        if (reader.faultOf(fleet.ships, draft) != NONE) {
            return NOT;
        }
        Book read = draft;
        if (book == 0) {
            draft = fleetBook;
            fleetBook = read;
        } else {
            draft = boardBook;
            boardBook = read;
        }
        text.length = 0;
        return read.count;
    }

    public int owed(int book, int ship, int hour) {
        if (!isBook(book) || !isShip(ship)) {
            return UNKNOWN;
        }
        if (!isHour(hour)) {
            return OUTSIDE;
        }
        return fleet.men[ship] * bookOf(book).owedEach(ship, hour);
    }

    public int voices(int book, int ship, int hour) {
        if (!isBook(book) || !isShip(ship)) {
            return UNKNOWN;
        }
        if (!isHour(hour)) {
            return OUTSIDE;
        }
        return bookOf(book).voicesOf(ship, hour);
    }

    public int unlike(int ship, int hour) {
        if (!isShip(ship)) {
            return UNKNOWN;
        }
        if (!isHour(hour)) {
            return OUTSIDE;
        }
        // Between two changes of force every hour is like the one before it; two books have 4 * ARTICLES at most.
        int h = hour;
        for (int changes = 0; changes <= 4 * ARTICLES && h <= LAST_HOUR; changes++) {
            if (fleetBook.owedEach(ship, h) != boardBook.owedEach(ship, h)) {
                return h;
            }
            h = Math.min(fleetBook.changeAfter(h), boardBook.changeAfter(h));
        }
        return NONE;
    }

    public int fellow(int ship, int doings) {
        if (!isShip(ship)) {
            return UNKNOWN;
        }
        if (!within(doings, 0, ALL_DOINGS)) {
            return OUTSIDE;
        }
        return fellows.add(ship, doings);
    }

    public int named(int book, int hour) {
        if (!isBook(book)) {
            return UNKNOWN;
        }
        if (!isHour(hour)) {
            return OUTSIDE;
        }
        int named = 0;
        for (int f = 0; f < fellows.count; f++) {
            if (!fellows.isPardoned(f, bookOf(book), hour)) {
                named |= 1 << f;
            }
        }
        return named;
    }

    public int word(int book, int fellow, int hour) {
        if (!isBook(book) || !within(fellow, 0, fellows.count - 1)) {
            return UNKNOWN;
        }
        if (!isHour(hour)) {
            return OUTSIDE;
        }
        if (fellows.isPardoned(fellow, bookOf(book), hour)) {
            return NOT;
        }
        return bookOf(book).leastBut(fellows.ship[fellow], hour);
    }

    // ---- votes, stores

    public int vote(int offer, int what) {
        if (!within(offer, 0, HUNDRED)) {
            return OUTSIDE;
        }
        switch (what) {
            case 0:
                return voicesFor(offer);
            case 1:
                return voicesToCarry();
            case 2:
                return carries(offer) ? 1 : 0;
            default:
                return OUTSIDE;
        }
    }

    public int least(int set) {
        if (!isSet(set, fleet.ships)) {
            return OUTSIDE;
        }
        return set == 0 ? leastThatCarries() : leastForAll(set);
    }

    public int sharing(int set) {
        if (set == 0 || !isSet(set, fleet.ships)) {
            return OUTSIDE;
        }
        int beef = 0;
        int water = 0;
        int eats = 0;
        for (int s = 0; s < fleet.ships; s++) {
            if (has(set, s)) {
                beef += fleet.beef[s];
                water += fleet.water[s];
                eats += fleet.eats(s);
            }
        }
        return hoursOf(beef, water, eats);
    }

    // ---- slipping, officers, plans

    public int battery(int cell, int range, int guns) {
        if (!isCell(cell)) {
            return UNKNOWN;
        }
        if (!within(range, 0, MOST_FAR) || !within(guns, 1, MOST_GUNS)) {
            return OUTSIDE;
        }
        return batteries.add(cell, range, guns);
    }

    public int slip(int ship, int n) {
        if (!isShip(ship)) {
            return UNKNOWN;
        }
        if (!within(n, 1, DAY)) {
            return OUTSIDE;
        }
        return batteries.leastHits(fleet.cell[ship], fleet.hour, n, fleet.told[WIND]);
    }

    public int officer(int ship, int skills) {
        if (!isShip(ship)) {
            return UNKNOWN;
        }
        if (!within(skills, 0, SKILLS - 1)) {
            return OUTSIDE;
        }
        return officers.add(ship, skills);
    }

    public int list(int set, boolean is) {
        if (!isSet(set, officers.count)) {
            return OUTSIDE;
        }
        return is ? officers.sendAshore(set) : officers.bringBack(set);
    }

    public int needs(int ship, int skills) {
        if (!isShip(ship)) {
            return UNKNOWN;
        }
        if (!within(skills, 0, SKILLS - 1)) {
            return OUTSIDE;
        }
        int was = officers.needs[ship];
        officers.needs[ship] = skills;
        return was;
    }

    public int sailed() {
        int set = 0;
        for (int s = 0; s < fleet.ships; s++) {
            if (officers.missing(s) == 0) {
                set |= 1 << s;
            }
        }
        return set;
    }

    public int asked(int ship) {
        if (!isShip(ship)) {
            return UNKNOWN;
        }
        return officers.askedBack(ship);
    }

    public int ask(int ask, int one, int two) {
        if (!within(ask, 0, ASKS - 1)) {
            return UNKNOWN;
        }
        if (!within(one, -MOST_ANSWER, MOST_ANSWER) || !within(two, -MOST_ANSWER, MOST_ANSWER)) {
            return OUTSIDE;
        }
        plan.answer(ask, one, two);
        return 1;
    }

    public int reaches(int n, int g) {
        if (!isGoal(n, g)) {
            return OUTSIDE;
        }
        return plan.sure(n, NONE) >= g ? 1 : 0;
    }

    public int begin(int n, int g) {
        if (!isGoal(n, g)) {
            return OUTSIDE;
        }
        return g <= 0 ? NONE : plan.firstAsk(n, g);
    }

    public int count(int what) {
        switch (what) {
            case 0:
                return fleet.ships;
            case 1:
                return Integer.bitCount(fleet.yieldedSet());
            case 2:
                return fleet.hour;
            case 3:
                return fleet.boats.count;
            case 4:
                return fleet.papers;
            case 5:
                return fellows.count;
            case 6:
                return officers.count;
            case 7:
                return Integer.bitCount(officers.ashore);
            case 8:
                return text.length;
            default:
                return OUTSIDE;
        }
    }

    // ---- bounds

    private static boolean within(int v, int least, int most) {
        return v >= least && v <= most;
    }

    private static boolean isCell(int cell) {
        return within(cell, 0, CELLS - 1);
    }

    private static boolean isHour(int hour) {
        return within(hour, 0, LAST_HOUR);
    }

    private static boolean isBook(int book) {
        return book == 0 || book == 1;
    }

    private static boolean isGoal(int n, int g) {
        return within(n, 1, ASKS) && within(g, -HUNDRED, HUNDRED);
    }

    private static boolean isSet(int set, int members) {
        return set >= 0 && set < 1 << members;
    }

    private static boolean has(int set, int member) {
        return (set >> member & 1) != 0;
    }

    private boolean isShip(int ship) {
        return within(ship, 0, fleet.ships - 1);
    }

    private boolean canPass(int n) {
        return within(n, 1, MOST_HOURS) && fleet.hour + n <= LAST_HOUR;
    }

    private Book bookOf(int book) {
        return book == 0 ? fleetBook : boardBook;
    }

    // ---- measures

    private static int far(int one, int other) {
        int x = Math.abs(one % SIDE - other % SIDE);
        int y = Math.abs(one / SIDE - other / SIDE);
        return Math.max(x, y);
    }

    private static int hoursOf(int beef, int water, int eats) {
        return eats > 0 ? Math.min(beef, water) / eats : 0;
    }

    private static void copy(int[] from, int[] to) {
        System.arraycopy(from, 0, to, 0, Math.min(from.length, to.length));
    }

    // ---- votes

    private int voicesFor(int offer) {
        int voices = 0;
        for (int s = 0; s < fleet.ships; s++) {
            if (!fleet.hasYielded(s) && offer >= fleet.leastOffer(s)) {
                voices += fleetBook.voicesOf(s, fleet.hour);
            }
        }
        return voices;
    }

    private int voicesToCarry() {
        int told = fleetBook.carry(fleet.hour);
        // At an offer of 100 each ship that has not yielded is for it, so these are all the voices there are.
        return told != NONE ? told : voicesFor(HUNDRED) / 2 + 1;
    }

    private boolean carries(int offer) {
        return voicesFor(offer) >= voicesToCarry();
    }

    private int leastThatCarries() {
        if (carries(0)) {
            return 0;
        }
        // Voices change only at an offer that brings a ship over, so no other offer can be the least one.
        int least = NONE;
        for (int s = 0; s < fleet.ships; s++) {
            int offer = fleet.leastOffer(s);
            if (!fleet.hasYielded(s) && (least == NONE || offer < least) && carries(offer)) {
                least = offer;
            }
        }
        return least;
    }

    private int leastForAll(int set) {
        int least = 0;
        for (int s = 0; s < fleet.ships; s++) {
            if (has(set, s) && !fleet.hasYielded(s)) {
                least = Math.max(least, fleet.leastOffer(s));
            }
        }
        return least;
    }

    /** The ships, what they know and saw, and the boats between them, at the beginning of an hour. */
    private static final class Fleet {
        int hour;
        int ships;
        int papers;
        final int[] told = {3, 0, 30, 0};
        final int[] cell = new int[SHIPS];
        final int[] men = new int[SHIPS];
        final int[] beef = new int[SHIPS];
        final int[] water = new int[SHIPS];
        final int[] want = new int[SHIPS];
        final int[] will = new int[SHIPS];
        final int[] yielded = new int[SHIPS];
        final int[] shown = new int[SHIPS];
        final int[] lastSaw = new int[SHIPS * SHIPS];
        final int[] offer = new int[PAPERS];
        final int[] knownFrom = new int[SHIPS * PAPERS];
        final Boats boats = new Boats();

        int addShip(int atCell, int ofMen, int ofBeef, int ofWater, int wants, int wills) {
            if (ships >= SHIPS) {
                return FULL;
            }
            int s = ships;
            cell[s] = atCell;
            men[s] = ofMen;
            beef[s] = ofBeef;
            water[s] = ofWater;
            want[s] = wants;
            will[s] = wills;
            yielded[s] = NONE;
            shown[s] = NONE;
            for (int other = 0; other < SHIPS; other++) {
                lastSaw[s * SHIPS + other] = NONE;
            }
            for (int p = 0; p < PAPERS; p++) {
                knownFrom[s * PAPERS + p] = NONE;
            }
            ships++;
            return s;
        }

        int addPaper(int s, int ofOffer) {
            if (papers >= PAPERS) {
                return FULL;
            }
            int p = papers;
            offer[p] = ofOffer;
            knownFrom[s * PAPERS + p] = hour;
            papers++;
            return p;
        }

        int sendBoat(int from, int to, int ofBeef, int ofWater, int paper) {
            int due = hour + far(cell[from], cell[to]);
            if (!boats.add(due, to, ofBeef, ofWater, paper)) {
                return FULL;
            }
            beef[from] -= ofBeef;
            water[from] -= ofWater;
            return due;
        }

        boolean hasYielded(int s) {
            return yielded[s] != NONE;
        }

        boolean isKnown(int s, int p, int asOf) {
            int from = knownFrom[s * PAPERS + p];
            return from != NONE && from <= asOf;
        }

        int eats(int s) {
            return (men[s] + HUNDRED - 1) / HUNDRED;
        }

        int leastOffer(int s) {
            return Math.max(0, want[s] - (HUNDRED - will[s]) / 10);
        }

        int yieldedSet() {
            int set = 0;
            for (int s = 0; s < ships; s++) {
                if (hasYielded(s)) {
                    set |= 1 << s;
                }
            }
            return set;
        }

        void become(Fleet other) {
            hour = other.hour;
            ships = other.ships;
            papers = other.papers;
            copy(other.told, told);
            copy(other.cell, cell);
            copy(other.men, men);
            copy(other.beef, beef);
            copy(other.water, water);
            copy(other.want, want);
            copy(other.will, will);
            copy(other.yielded, yielded);
            copy(other.shown, shown);
            copy(other.lastSaw, lastSaw);
            copy(other.offer, offer);
            copy(other.knownFrom, knownFrom);
            boats.become(other.boats);
        }

        void passHours(int n) {
            for (int i = 0; i < n; i++) {
                passHour();
            }
        }

        void passHour() {
            for (int s = 0; s < ships; s++) {
                eat(s);
            }
            landBoats();
            showSignals();
            for (int s = 0; s < ships; s++) {
                if (!hasYielded(s) && will[s] < told[LINE]) {
                    yielded[s] = hour;
                }
                shown[s] = NONE;
            }
            hour++;
        }

        void eat(int s) {
            int eats = eats(s);
            if (beef[s] < eats) {
                changeWill(s, -3);
            }
            if (water[s] < eats) {
                changeWill(s, -5);
            }
            beef[s] = Math.max(0, beef[s] - eats);
            water[s] = Math.max(0, water[s] - eats);
        }

        void landBoats() {
            for (int b = 0; b < boats.count; b++) {
                int s = boats.to[b];
                int p = boats.paper[b];
                if (boats.due[b] == hour) {
                    beef[s] = Math.min(MOST_STORES, beef[s] + boats.beef[b]);
                    water[s] = Math.min(MOST_STORES, water[s] + boats.water[b]);
                    if (p != NONE && !isKnown(s, p, hour)) {
                        knownFrom[s * PAPERS + p] = hour;
                        read(s, offer[p]);
                    }
                }
            }
            boats.dropDue(hour);
        }

        void read(int s, int ofOffer) {
            int less = 5 * (ofOffer - want[s] + 5);
            if (less > 0) {
                changeWill(s, -Math.min(40, less));
            }
        }

        void showSignals() {
            if (has(told[FOG], hour % DAY)) {
                return;
            }
            for (int s = 0; s < ships; s++) {
                int v = hasYielded(s) ? YIELD_SIGNAL : shown[s];
                for (int by = 0; v != NONE && by < ships; by++) {
                    if (by != s && far(cell[by], cell[s]) <= told[SIGHT]) {
                        see(by, s, v);
                    }
                }
            }
        }

        void see(int by, int s, int v) {
            int at = by * SHIPS + s;
            // A ship that has yielded shows nothing else any more: with a 3 seen, the last one seen is a 3.
            if (v == YIELD_SIGNAL && lastSaw[at] != YIELD_SIGNAL) {
                changeWill(by, -10);
            }
            if (v == 2) {
                changeWill(by, 4);
            }
            lastSaw[at] = v;
        }

        void changeWill(int s, int by) {
            will[s] = Math.max(0, Math.min(HUNDRED, will[s] + by));
        }
    }

    /** The boats on the way, in the order in which they set out. */
    private static final class Boats {
        int count;
        final int[] due = new int[BOATS];
        final int[] to = new int[BOATS];
        final int[] beef = new int[BOATS];
        final int[] water = new int[BOATS];
        final int[] paper = new int[BOATS];

        boolean add(int comes, int ship, int ofBeef, int ofWater, int withPaper) {
            if (count >= BOATS) {
                return false;
            }
            due[count] = comes;
            to[count] = ship;
            beef[count] = ofBeef;
            water[count] = ofWater;
            paper[count] = withPaper;
            count++;
            return true;
        }

        void dropDue(int hour) {
            int all = count;
            count = 0;
            for (int b = 0; b < all; b++) {
                if (due[b] != hour) {
                    add(due[b], to[b], beef[b], water[b], paper[b]);
                }
            }
        }

        void become(Boats other) {
            count = other.count;
            copy(other.due, due);
            copy(other.to, to);
            copy(other.beef, beef);
            copy(other.water, water);
            copy(other.paper, paper);
        }
    }

    /** The bytes that are written and not yet articles of a book. */
    private static final class Text {
        static final int END = -1;

        final int[] bytes = new int[BYTES];
        int length;

        void append(int b) {
            if (length < BYTES) {
                bytes[length] = b;
                length++;
            }
        }

        int byteAt(int i) {
            return i >= 0 && i < length ? bytes[i] : END;
        }
    }

    /** Reads a text as articles; it stands on one token, which is the fault, when nothing takes it. */
    private static final class Reader {
        static final int LONGEST_NUMBER = 4;
        static final int NO_ROW = 0;
        static final int LETTERS = 1;
        static final int DIGITS = 2;

        final Text text;
        int ships;
        int start;
        int end;
        int row;
        int ship;
        int number;
        int from;
        int to;

        Reader(Text text) {
            this.text = text;
        }

        int faultOf(int withShips, Book into) {
            ships = withShips;
            into.count = 0;
            end = 0;
            next();
            for (int a = 0; a < ARTICLES; a++) {
                if (!takeArticle(into)) {
                    return start;
                }
                if (atEnd()) {
                    return NONE;
                }
                if (a == ARTICLES - 1 || !takeSemicolon()) {
                    return start;
                }
            }
            return start;
        }

        boolean takeArticle(Book into) {
            int kind = takeKind();
            boolean read;
            if (kind == Book.OWE || kind == Book.VOICE) {
                read = takeShip() && takeNumber(0, MOST_NUMBER);
            } else if (kind == Book.CARRY) {
                ship = Book.ALL;
                read = takeNumber(0, MOST_NUMBER);
            } else {
                read = kind == Book.PARDON && takeShip() && takeBut();
            }
            // Reading the hours overwrites the number.
            int n = number;
            if (!read || !takeHours()) {
                return false;
            }
            into.add(kind, ship, n, from, to);
            return true;
        }

        int takeKind() {
            if (takeWord("owe")) {
                return Book.OWE;
            }
            if (takeWord("voice")) {
                return Book.VOICE;
            }
            if (takeWord("carry")) {
                return Book.CARRY;
            }
            return takeWord("pardon") ? Book.PARDON : NONE;
        }

        boolean takeShip() {
            if (takeWord("all")) {
                ship = Book.ALL;
                return true;
            }
            boolean taken = takeNumber(0, ships - 1);
            ship = number;
            return taken;
        }

        boolean takeBut() {
            number = NONE;
            return !takeWord("but") || takeNumber(0, MOST_DOING);
        }

        boolean takeHours() {
            from = 0;
            to = LAST_HOUR;
            if (!takeWord("from")) {
                return true;
            }
            if (!takeNumber(0, LAST_HOUR)) {
                return false;
            }
            from = number;
            if (!takeWord("to")) {
                return true;
            }
            boolean taken = takeNumber(from, LAST_HOUR);
            to = number;
            return taken;
        }

        boolean takeWord(String word) {
            if (end - start != word.length()) {
                return false;
            }
            for (int i = 0; i < word.length(); i++) {
                if (text.byteAt(start + i) != word.charAt(i)) {
                    return false;
                }
            }
            next();
            return true;
        }

        boolean takeNumber(int least, int most) {
            if (row != DIGITS || end - start > LONGEST_NUMBER) {
                return false;
            }
            int v = 0;
            for (int i = start; i < end; i++) {
                v = 10 * v + text.byteAt(i) - '0';
            }
            if (!within(v, least, most)) {
                return false;
            }
            number = v;
            next();
            return true;
        }

        boolean takeSemicolon() {
            boolean is = text.byteAt(start) == ';';
            if (is) {
                next();
            }
            return is;
        }

        boolean atEnd() {
            return start >= text.length;
        }

        void next() {
            start = end;
            while (start < text.length && text.byteAt(start) == ' ') {
                start++;
            }
            row = rowOf(text.byteAt(start));
            end = Math.min(start + 1, text.length);
            while (row != NO_ROW && end < text.length && rowOf(text.byteAt(end)) == row) {
                end++;
            }
        }

        static int rowOf(int b) {
            if (b >= 'a' && b <= 'z') {
                return LETTERS;
            }
            return b >= '0' && b <= '9' ? DIGITS : NO_ROW;
        }
    }

    /** The articles of a book, in the order of their text. */
    private static final class Book {
        static final int OWE = 0;
        static final int VOICE = 1;
        static final int CARRY = 2;
        static final int PARDON = 3;
        static final int ALL = -1;

        int count;
        final int[] kind = new int[ARTICLES];
        final int[] ship = new int[ARTICLES];
        final int[] number = new int[ARTICLES];
        final int[] from = new int[ARTICLES];
        final int[] to = new int[ARTICLES];

        void add(int ofKind, int forShip, int n, int fromHour, int toHour) {
            if (count >= ARTICLES) {
                return;
            }
            kind[count] = ofKind;
            ship[count] = forShip;
            number[count] = n;
            from[count] = fromHour;
            to[count] = toHour;
            count++;
        }

        boolean isFor(int a, int ofKind, int s, int hour) {
            return kind[a] == ofKind && (ship[a] == ALL || ship[a] == s) && hour >= from[a] && hour <= to[a];
        }

        int owedEach(int s, int hour) {
            int owed = 0;
            for (int a = 0; a < count; a++) {
                if (isFor(a, OWE, s, hour)) {
                    owed += number[a];
                }
            }
            return owed;
        }

        int voicesOf(int s, int hour) {
            int voices = 1;
            for (int a = 0; a < count; a++) {
                if (isFor(a, VOICE, s, hour)) {
                    voices = number[a];
                }
            }
            return voices;
        }

        int carry(int hour) {
            int carry = NONE;
            for (int a = 0; a < count; a++) {
                if (isFor(a, CARRY, ALL, hour)) {
                    carry = number[a];
                }
            }
            return carry;
        }

        boolean pardons(int s, int doings, int hour) {
            for (int a = 0; a < count; a++) {
                if (isFor(a, PARDON, s, hour) && (number[a] == NONE || !has(doings, number[a]))) {
                    return true;
                }
            }
            return false;
        }

        int leastBut(int s, int hour) {
            int least = NONE;
            for (int a = 0; a < count; a++) {
                if (isFor(a, PARDON, s, hour) && number[a] != NONE && (least == NONE || number[a] < least)) {
                    least = number[a];
                }
            }
            return least;
        }

        int changeAfter(int hour) {
            int change = LAST_HOUR + 1;
            for (int a = 0; a < count; a++) {
                if (from[a] > hour) {
                    change = Math.min(change, from[a]);
                }
                if (to[a] >= hour) {
                    change = Math.min(change, to[a] + 1);
                }
            }
            return change;
        }
    }

    /** Those whom a book pardons or names. */
    private static final class Fellows {
        int count;
        final int[] ship = new int[FELLOWS];
        final int[] doings = new int[FELLOWS];

        int add(int ofShip, int did) {
            if (count >= FELLOWS) {
                return FULL;
            }
            ship[count] = ofShip;
            doings[count] = did;
            count++;
            return count - 1;
        }

        boolean isPardoned(int f, Book book, int hour) {
            return book.pardons(ship[f], doings[f], hour);
        }
    }

    /** The guns about the anchorage, and the ways out past them. */
    private static final class Batteries {
        static final int NEVER = 1_000_000;
        static final int TIDE = 12;
        static final int EBB = 6;
        static final int[] STEP_X = {1, 0, -1, 0};
        static final int[] STEP_Y = {0, 1, 0, -1};

        int count;
        final int[] cell = new int[BATTERIES];
        final int[] range = new int[BATTERIES];
        final int[] guns = new int[BATTERIES];
        final int[] cost = new int[CELLS];
        final int[] evenHits = new int[CELLS];
        final int[] oddHits = new int[CELLS];

        int add(int atCell, int withRange, int ofGuns) {
            if (count >= BATTERIES) {
                return FULL;
            }
            cell[count] = atCell;
            range[count] = withRange;
            guns[count] = ofGuns;
            count++;
            return count;
        }

        int leastHits(int start, int hour, int n, int wind) {
            int[] hits = evenHits;
            int[] next = oddHits;
            for (int c = 0; c < CELLS; c++) {
                cost[c] = gunsAt(c);
                hits[c] = c == start ? 0 : NEVER;
            }
            int least = NEVER;
            for (int i = 0; i < n; i++) {
                boolean ebb = (hour + i) % TIDE >= EBB;
                for (int c = 0; c < CELLS; c++) {
                    int before = ebb ? leastBefore(hits, c, wind) : hits[c];
                    next[c] = before == NEVER ? NEVER : before + cost[c];
                }
                least = Math.min(least, takeAway(next));
                int[] old = hits;
                hits = next;
                next = old;
            }
            return least == NEVER ? NONE : least;
        }

        int gunsAt(int c) {
            int all = 0;
            for (int b = 0; b < count; b++) {
                if (far(cell[b], c) <= range[b]) {
                    all += guns[b];
                }
            }
            return all;
        }

        static int leastBefore(int[] hits, int c, int wind) {
            int least = hits[c];
            for (int d = 0; d < WINDS; d++) {
                int x = c % SIDE - STEP_X[d];
                int y = c / SIDE - STEP_Y[d];
                boolean against = d == (wind + 2) % WINDS;
                if (!against && within(x, 0, SIDE - 1) && within(y, 0, SIDE - 1)) {
                    least = Math.min(least, hits[SIDE * y + x]);
                }
            }
            return least;
        }

        // A ship that is away goes no further way.
        static int takeAway(int[] hits) {
            int least = NEVER;
            for (int c = CELLS - SIDE; c < CELLS; c++) {
                least = Math.min(least, hits[c]);
                hits[c] = NEVER;
            }
            return least;
        }
    }

    /** The officers, and what ships need of them. */
    private static final class Officers {
        // A set costs this for each officer, and its own number: the least cost is of the fewest, then of the least number.
        static final int EACH = 1 << OFFICERS;
        static final int NEVER = EACH * EACH;

        int count;
        int ashore;
        final int[] ship = new int[OFFICERS];
        final int[] skills = new int[OFFICERS];
        final int[] needs = new int[SHIPS];
        final int[] cost = new int[SKILLS];

        Officers() {
            for (int s = 0; s < SHIPS; s++) {
                needs[s] = SKILLS - 1;
            }
        }

        int add(int ofShip, int able) {
            if (count >= OFFICERS) {
                return FULL;
            }
            ship[count] = ofShip;
            skills[count] = able;
            count++;
            return count - 1;
        }

        int sendAshore(int set) {
            int go = set & ~ashore;
            ashore |= set;
            return Integer.bitCount(go);
        }

        int bringBack(int set) {
            int come = set & ashore;
            ashore &= ~set;
            return Integer.bitCount(come);
        }

        int missing(int s) {
            int missing = needs[s];
            for (int o = 0; o < count; o++) {
                if (ship[o] == s && !has(ashore, o)) {
                    missing &= ~skills[o];
                }
            }
            return missing;
        }

        int askedBack(int s) {
            int missing = missing(s);
            for (int k = 0; k < SKILLS; k++) {
                cost[k] = k == missing ? 0 : NEVER;
            }
            for (int o = 0; o < count; o++) {
                if (ship[o] == s && has(ashore, o)) {
                    tryWith(o);
                }
            }
            return cost[0] == NEVER ? NONE : cost[0] % EACH;
        }

        // Goes upwards, so that what it writes (always at or below k) is not read again with the same officer.
        private void tryWith(int o) {
            for (int k = 0; k < SKILLS; k++) {
                int left = k & ~skills[o];
                if (cost[k] != NEVER) {
                    cost[left] = Math.min(cost[left], cost[k] + EACH + (1 << o));
                }
            }
        }
    }

    /** What the cabin can ask, counted by the worse answers. */
    private static final class Plan {
        // A higher standing reaches all that a lower one does, so the worse answer alone decides.
        final int[] worse = new int[ASKS];

        void answer(int ask, int one, int two) {
            worse[ask] = Math.min(one, two);
        }

        /** The greatest standing that n asks are sure to reach at some time, one of them left out. */
        int sure(int n, int without) {
            int standing = 0;
            int asked = without == NONE ? 0 : 1 << without;
            for (int i = 0; i < n; i++) {
                int ask = bestBut(asked);
                if (ask == NONE) {
                    return standing;
                }
                standing += worse[ask];
                asked |= 1 << ask;
            }
            return standing;
        }

        int bestBut(int asked) {
            int best = NONE;
            for (int a = 0; a < ASKS; a++) {
                if (!has(asked, a) && worse[a] > 0 && (best == NONE || worse[a] > worse[best])) {
                    best = a;
                }
            }
            return best;
        }

        int firstAsk(int n, int g) {
            for (int a = 0; a < ASKS; a++) {
                if (worse[a] + sure(n - 1, a) >= g) {
                    return a;
                }
            }
            return NONE;
        }
    }
}
