/**
 * Tugs that move small worlds under the pull of suns: programs, orders that go
 * with light, contracts, patches, near misses and best tours. DOC.md of the
 * project says what every call answers; words in capitals here are its terms.
 *
 * Every row is made once, with the object, and used again: no call makes objects.
 */
public final class RockTugs {
    public static final int BAD = -1000000001, NO = -1000000002, FULL = -1000000003, SPENT = -1000000004, NONE = -1000000005, NOTHING = -1000000011, INDEX = -1000000013, SIZE = -1000000014;

    private static final int MOST_SUNS = 3, MOST_ROCKS = 8, MOST_TUGS = 4, MOST_CONTRACTS = 8, MOST_WINDOWS = 16;
    private static final int MOST_ORDERS = 30, MOST_REPORTS = 60, MOST_CLAIMS = 20;
    private static final int MOST_LEGS = 6, MOST_WAITING = 30, MOST_TAPE = 120;
    private static final int PROGRAMS = 4, SHEETS = 2, MOST_PLACES = 40;
    private static final int EDGE = 9999999, MOST_TONS = 99999, MOST_SPIN = 99, MOST_STOCK = 9999, MOST_WORTH = 999;
    private static final int MOST_FUEL = 999, LAST_DAY = 3000, LAST_OPENING = 999;

    /** KINDS of ROCKS, then of TUGS; both go up to the same number. */
    private static final int ICY = 1, ORE = 2, STATION = 3, LAST_KIND = 3;
    private static final int HAULER = 1, DIGGER = 2, MINT = 3;

    private static final int WATER = 0, METAL = 1, WORTH = 2;
    private static final int LIGHT = 0, GROWTH = 1, RATE = 2;

    /** Columns of what is on its way, of KNOWN, of a TOUR's ROWS and of a PROGRAM's code. */
    private static final int DUE = 0, OF_TUG = 1, SUBJECT = 2;
    private static final int REPORT_WIDTH = 8, KNOWN_WIDTH = 6, KNOWN_FUEL = 4, KNOWN_DAY = 5;
    private static final int LEG_WINDOW = 0, LEG_LEFT = 1, LEG_ENDS = 2, LEG_FUEL = 3, LEG_WIDTH = 4;
    private static final int OP = 0, ARG = 1;

    /** The words of S, each in as many columns: a word's number is its operation in the code. */
    private static final String WORDS =
            "aim   burn  dock  free  dig   make  give  still shed  claim wait  until if    while else  ";
    private static final int WORD_WIDTH = 6, WORD_COUNT = 15;
    private static final int AIM = 0, BURN = 1, DOCK = 2, FREE = 3, DIG = 4, MAKE = 5, GIVE = 6, STILL = 7, SHED = 8;
    private static final int CLAIM = 9, WAIT = 10, UNTIL = 11, IF = 12, WHILE = 13, ELSE = 14;
    private static final int JUMP = 15, LAST_ACT = 15;
    /** The other operations work out an E; those with two sides have the number of their sign. */
    private static final int NUMBER = 16, NAME = 17, MINUS = 18;
    private static final String NAMES = "xyuvfwmtks";

    private final World now = new World();
    private final World image = new World();
    private boolean kept;
    private final int[] tape = new int[MOST_TAPE];
    private int taped;
    private final int[] waiting = new int[MOST_WAITING];
    private int waits;
    private final short[][] sheets = new short[SHEETS][MOST_PLACES];
    /** How many places each SHEET has; below 0: it is MISSING. */
    private final int[] places = {-1, -1};
    private final Parser parser = new Parser();
    private final Runner runner = new Runner();
    private final Seeker seeker = new Seeker();
    private final Body oneGhost = new Body();
    private final Body otherGhost = new Body();

    public RockTugs() {
    }

    // ---- the sky

    public int sun(int x, int y, int pull) {
        if (!isPlace(x, y) || !within(pull, 0, 999)) return BAD;
        if (now.suns >= MOST_SUNS) return FULL;
        now.sun[now.suns].begin(x, y, pull);
        return now.suns++;
    }

    public int rock(int kind, int x, int y, int tons, int spin) {
        if (!within(kind, 0, LAST_KIND) || !isPlace(x, y)) return BAD;
        if (!within(tons, 1, MOST_TONS) || !within(spin, -MOST_SPIN, MOST_SPIN)) return BAD;
        if (now.rocks >= MOST_ROCKS) return FULL;
        Rock made = now.rock[now.rocks];
        made.begin(kind, tons, spin);
        made.body.begin(x, y);
        return now.rocks++;
    }

    public int speed(int rock, int u, int v) {
        if (!now.isRock(rock) || !isPlace(u, v)) return BAD;
        Body body = now.rock[rock].body;
        body.u = u;
        body.v = v;
        return 0;
    }

    public int stock(int rock, int what, int v) {
        if (!now.isRock(rock) || !within(what, WATER, WORTH)) return BAD;
        if (!within(v, 0, what == WORTH ? MOST_WORTH : MOST_STOCK)) return BAD;
        Rock of = now.rock[rock];
        int was = what == WORTH ? of.worth : of.stock[what];
        if (what == WORTH) of.worth = v;
        else of.stock[what] = v;
        return was;
    }

    public int lay(int sheet) {
        if (!isSheet(sheet)) return BAD;
        if (places[sheet] < 0) return NOTHING;
        int many = Math.min(places[sheet], now.rocks);
        for (int i = 0; i < many; i++) {
            int worth = sheets[sheet][i];
            now.rock[i].worth = within(worth, 0, MOST_WORTH) ? worth : 0;
        }
        return many;
    }

    public int told(int rock, int what) {
        if (!now.isRock(rock)) return BAD;
        Rock of = now.rock[rock];
        switch (what) {
            case 0: return of.kind;
            case 1: return of.body.x;
            case 2: return of.body.y;
            case 3: return of.body.u;
            case 4: return of.body.v;
            case 5: return of.tons;
            case 6: return of.spin;
            case 7: return of.stock[WATER];
            case 8: return of.stock[METAL];
            case 9: return of.worth;
            case 10: return of.owner;
            case 11: return of.restU;
            case 12: return of.restV;
            default: return BAD;
        }
    }

    public int isOf(int rock, int kind) {
        if (!now.isRock(rock) || !within(kind, 0, LAST_KIND)) return BAD;
        return isUnder(now.rock[rock].kind, kind) ? 1 : 0;
    }

    public int weigh(int rock, int low, int high) {
        if (!now.isRock(rock) || !within(low, 1, MOST_TONS) || !within(high, low, MOST_TONS)) return BAD;
        Rock of = now.rock[rock];
        if (!within(of.tons, low, high)) return NO;
        of.low = Math.max(of.low, low);
        of.high = Math.min(of.high, high);
        return of.high - of.low + 1;
    }

    public int learnt(int rock, int end) {
        if (!now.isRock(rock) || !within(end, 0, 1)) return BAD;
        return end == 0 ? now.rock[rock].low : now.rock[rock].high;
    }

    // ---- tugs, programs, orders

    public int tug(int kind, int x, int y, int fuel) {
        if (!within(kind, 0, LAST_KIND) || !isPlace(x, y) || !within(fuel, 0, MOST_FUEL)) return BAD;
        if (now.tugs >= MOST_TUGS) return FULL;
        Tug made = now.tug[now.tugs];
        made.begin(kind, fuel);
        made.free.begin(x, y);
        return now.tugs++;
    }

    public int is(int tug, int kind) {
        if (!now.isTug(tug) || !within(kind, 0, LAST_KIND)) return BAD;
        return isUnder(now.tug[tug].kind, kind) ? 1 : 0;
    }

    public int moor(int tug, int rock) {
        if (!now.isTug(tug) || !now.isRock(rock)) return BAD;
        if (now.isDocked(now.tug[tug]) || !now.hasBerth(rock)) return NO;
        now.tug[tug].dock = rock;
        return 1;
    }

    public int dark(int tug, int on) {
        if (!now.isTug(tug) || !within(on, 0, 1)) return BAD;
        Tug of = now.tug[tug];
        int was = of.dark ? 1 : 0;
        of.dark = on == 1;
        return was;
    }

    public int has(int tug, int what) {
        if (!now.isTug(tug)) return BAD;
        Tug of = now.tug[tug];
        Body body = now.bodyOf(of);
        switch (what) {
            case 0: return of.kind;
            case 1: return body.x;
            case 2: return body.y;
            case 3: return body.u;
            case 4: return body.v;
            case 5: return of.fuel;
            case 6: return of.hold[WATER];
            case 7: return of.hold[METAL];
            case 8: return of.wheel;
            case 9: return of.dock;
            case 10: return of.program;
            case 11: return of.aim;
            case 12: return of.burnt;
            case 13: return of.made;
            default: return BAD;
        }
    }

    public int feed(int a, int b, int c) {
        if (taped > MOST_TAPE - 12) return FULL;
        feedFour(a);
        feedFour(b);
        feedFour(c);
        return taped;
    }

    public int trim(int n) {
        if (!within(n, 0, taped)) return BAD;
        taped = n;
        return n;
    }

    public int program(int program) {
        int length = taped;
        taped = 0;
        if (!within(program, 0, PROGRAMS - 1)) return BAD;
        now.stopAll(program);
        return parser.parse(tape, length, now.code[program]);
    }

    public int send(int tug, int program) {
        if (!now.isTug(tug) || !within(program, 0, PROGRAMS - 1)) return BAD;
        if (now.code[program].rows() == 0) return NO;
        int order = now.orders.add();
        if (order < 0) return FULL;
        int due = now.arrival(now.bodyOf(now.tug[tug]));
        now.orders.put(order, DUE, due);
        now.orders.put(order, OF_TUG, tug);
        now.orders.put(order, SUBJECT, program);
        return due;
    }

    public int run(int n) {
        if (!within(n, 1, 30)) return BAD;
        if (now.today + n > LAST_DAY) return FULL;
        for (int i = 0; i < n; i++) {
            now.receive();
            for (int t = 0; t < now.tugs; t++) runner.live(now, t);
            now.drift();
            now.endDay();
        }
        return now.today;
    }

    public int rule(int which, int v) {
        if (!within(which, LIGHT, RATE)) return BAD;
        int least = which == LIGHT ? 1 : 0;
        int most = which == LIGHT ? 99999 : which == GROWTH ? 9999 : 50;
        if (!within(v, least, most)) return BAD;
        int was = now.rules[which];
        now.rules[which] = v;
        return was;
    }

    // ---- what is known, foretold

    public int known(int tug, int what) {
        if (!now.isTug(tug) || !within(what, 0, KNOWN_WIDTH - 1)) return BAD;
        Tug of = now.tug[tug];
        return of.isKnown() ? of.known[what] : NONE;
    }

    public int patch(int tug, int what) {
        if (!now.isTug(tug) || !within(what, 0, 4)) return BAD;
        Tug of = now.tug[tug];
        if (!of.isKnown()) return NONE;
        if (what < 4) return now.patchEnd(of, what);
        Body body = now.bodyOf(of);
        boolean holds = within(body.x, now.patchEnd(of, 0), now.patchEnd(of, 1))
                && within(body.y, now.patchEnd(of, 2), now.patchEnd(of, 3));
        return holds ? 1 : 0;
    }

    public int miss(int one, int other, int n, int what) {
        if (!isBody(one) || !isBody(other) || one == other) return BAD;
        if (!within(n, 0, 60) || !within(what, 0, 1)) return BAD;
        oneGhost.copyFrom(bodyNumbered(one));
        otherGhost.copyFrom(bodyNumbered(other));
        int least = oneGhost.farFrom(otherGhost);
        int behind = 0;
        for (int i = 1; i <= n; i++) {
            now.driftBody(oneGhost);
            now.driftBody(otherGhost);
            int far = oneGhost.farFrom(otherGhost);
            if (far < least) {
                least = far;
                behind = i;
            }
        }
        return what == 0 ? least : behind;
    }

    // ---- contracts

    public int contract(int what, int tons, int rock, int day, int pay) {
        if (!within(what, WATER, METAL) || !within(tons, 1, 999) || !now.isRock(rock)) return BAD;
        if (!within(day, now.today, LAST_DAY) || !within(pay, 0, 9999)) return BAD;
        if (now.rock[rock].kind != STATION) return NO;
        if (now.contracts >= MOST_CONTRACTS) return FULL;
        now.contract[now.contracts].begin(what, tons, rock, day, pay);
        return now.contracts++;
    }

    public int about(int contract, int what) {
        if (!within(contract, 0, now.contracts - 1)) return BAD;
        Contract of = now.contract[contract];
        switch (what) {
            case 0: return of.got;
            case 1: return of.met;
            case 2: return of.isOpen(now.today) ? 1 : 0;
            default: return BAD;
        }
    }

    public int paid() {
        int sum = 0;
        for (int i = 0; i < now.contracts; i++) {
            if (now.contract[i].met != NONE) sum += now.contract[i].pay;
        }
        return sum;
    }

    // ---- tours

    public int window(int from, int to, int open, int close, int fuel, int days) {
        if (!now.isRock(from) || !now.isRock(to) || from == to) return BAD;
        if (!within(open, 0, LAST_OPENING) || !within(close, open, LAST_OPENING)) return BAD;
        if (!within(fuel, 0, MOST_FUEL) || !within(days, 1, 200)) return BAD;
        if (now.windows >= MOST_WINDOWS) return FULL;
        Window made = now.window[now.windows];
        made.from = from;
        made.to = to;
        made.open = open;
        made.close = close;
        made.fuel = fuel;
        made.days = days;
        return now.windows++;
    }

    public int shut() {
        int were = now.windows;
        now.windows = 0;
        return were;
    }

    public int tour(int rock, int t, int c, int end, int tries) {
        if (!now.isRock(rock) || !within(t, 0, LAST_OPENING) || !within(c, 0, MOST_FUEL)) return BAD;
        if (!within(end, t, 2000) || !within(tries, 1, 20000)) return BAD;
        if (!seeker.seek(now, rock, t, c, end, tries)) return SPENT;
        now.tour.copyFrom(seeker.best);
        now.toured = true;
        return seeker.bestWorth;
    }

    public int leg(int i) {
        if (i < 0) return BAD;
        return now.toured && i < now.tour.rows() ? now.tour.at(i, LEG_WINDOW) : NONE;
    }

    public int tell(int v) {
        if (waits >= MOST_WAITING) return FULL;
        waiting[waits] = v;
        waits++;
        return waits;
    }

    public int check() {
        int given = waits;
        waits = 0;
        if (!now.toured) return NO;
        int wanted = now.tour.rows() * LEG_WIDTH;
        int both = Math.min(given, wanted);
        int right = 0;
        while (right < both && waiting[right] == now.tour.at(right / LEG_WIDTH, right % LEG_WIDTH)) right++;
        return right == given && right == wanted ? 0 : 1 + right;
    }

    // ---- images, sheets

    public int keep() {
        image.copyFrom(now);
        kept = true;
        return now.today;
    }

    public int back() {
        if (!kept) return NO;
        now.copyFrom(image);
        return now.today;
    }

    public int sheet(int s, int n) {
        if (!isSheet(s) || n > MOST_PLACES) return BAD;
        if (n < 0) return SIZE;
        for (int i = 0; i < MOST_PLACES; i++) sheets[s][i] = 0;
        places[s] = n;
        return n;
    }

    public int mark(int s, int place, int v) {
        if (!isSheet(s)) return BAD;
        if (places[s] < 0) return NOTHING;
        if (!within(place, 0, places[s] - 1)) return INDEX;
        int was = sheets[s][place];
        sheets[s][place] = (short) v;
        return was;
    }

    public int copy(int from, int place, int to, int at, int many) {
        if (!isSheet(from) || !isSheet(to)) return BAD;
        if (places[from] < 0 || places[to] < 0) return NOTHING;
        if (many < 0 || !within(place, 0, places[from] - many) || !within(at, 0, places[to] - many)) return INDEX;
        System.arraycopy(sheets[from], place, sheets[to], at, many);
        return many;
    }

    public int count(int what) {
        switch (what) {
            case 0: return now.suns;
            case 1: return now.rocks;
            case 2: return now.tugs;
            case 3: return now.programsWritten();
            case 4: return now.orders.rows();
            case 5: return now.reports.rows();
            case 6: return now.claims.rows();
            case 7: return now.contracts;
            case 8: return now.windows;
            case 9: return waits;
            case 10: return taped;
            case 11: return now.today;
            default: return BAD;
        }
    }

    // ---- what several calls use

    private static boolean within(int v, int least, int most) {
        return v >= least && v <= most;
    }

    /** Also for SPEEDS, which have the same ends. */
    private static boolean isPlace(int x, int y) {
        return within(x, -EDGE, EDGE) && within(y, -EDGE, EDGE);
    }

    private static int held(long v, int least, int most) {
        if (v < least) return least;
        return v > most ? most : (int) v;
    }

    /** With ROCKS as with TUGS kind 3 is under kind 2, and all are of kind 0. */
    private static boolean isUnder(int kind, int asked) {
        return asked == 0 || kind == asked || kind == 3 && asked == 2;
    }

    private static boolean isSheet(int s) {
        return within(s, 0, SHEETS - 1);
    }

    private boolean isBody(int number) {
        return number < 10 ? now.isRock(number) : now.isTug(number - 10);
    }

    private Body bodyNumbered(int number) {
        return number < 10 ? now.rock[number].body : now.bodyOf(now.tug[number - 10]);
    }

    private void feedFour(int four) {
        for (int shift = 24; shift >= 0 && taped < MOST_TAPE; shift -= 8) {
            tape[taped] = four >>> shift & 255;
            taped++;
        }
    }

    /** A table with a number of rows that grows up to its room. */
    private static final class Rows {
        private final int room;
        private final int width;
        private final int[] cells;
        private int used;

        Rows(int room, int width) {
            this.room = room;
            this.width = width;
            this.cells = new int[room * width];
        }

        int rows() {
            return used;
        }

        /** One more row: its number, or below 0 if there is no room. */
        int add() {
            if (used >= room) return -1;
            used++;
            return used - 1;
        }

        void dropLast() {
            if (used > 0) used--;
        }

        void empty() {
            used = 0;
        }

        int at(int row, int column) {
            if (row < 0 || row >= used || column < 0 || column >= width) return 0;
            return cells[row * width + column];
        }

        void put(int row, int column, int v) {
            if (row < 0 || row >= used || column < 0 || column >= width) return;
            cells[row * width + column] = v;
        }

        /** Rows whose first cell is this or less go; the others stay in their order. */
        void dropUpTo(int most) {
            int stay = 0;
            for (int i = 0; i < used; i++) {
                if (cells[i * width] > most) {
                    System.arraycopy(cells, i * width, cells, stay * width, width);
                    stay++;
                }
            }
            used = stay;
        }

        /** The other table has the same room and width. */
        void copyFrom(Rows other) {
            used = Math.min(other.used, room);
            int many = Math.min(used * width, other.cells.length);
            System.arraycopy(other.cells, 0, cells, 0, many);
        }
    }

    /** PLACE and SPEED. */
    private static final class Body {
        int x, y, u, v;

        void begin(int x, int y) {
            this.x = x;
            this.y = y;
            u = 0;
            v = 0;
        }

        void copyFrom(Body other) {
            x = other.x;
            y = other.y;
            u = other.u;
            v = other.v;
        }

        void push(long du, long dv) {
            u = held(u + du, -EDGE, EDGE);
            v = held(v + dv, -EDGE, EDGE);
        }

        void move() {
            x = held(x + u, -EDGE, EDGE);
            y = held(y + v, -EDGE, EDGE);
        }

        int farFrom(Body other) {
            return farFromPlace(other.x, other.y);
        }

        int farFromPlace(int px, int py) {
            int dx = Math.abs(px - x);
            int dy = Math.abs(py - y);
            return Math.max(dx, dy) + Math.min(dx, dy) / 2;
        }
    }

    private static final class Sun {
        int x, y, pull;

        void begin(int x, int y, int pull) {
            this.x = x;
            this.y = y;
            this.pull = pull;
        }

        void draw(Body body) {
            long far = body.farFromPlace(x, y);
            if (far == 0) return;
            long strength = pull * 1000L;
            body.push(strength * (x - body.x) / (far * far), strength * (y - body.y) / (far * far));
        }
    }

    private static final class Rock {
        final Body body = new Body();
        /** By WATER and METAL. */
        final int[] stock = new int[2];
        int kind, tons, spin, worth, owner, restU, restV;
        /** LEARNT. */
        int low, high;

        void begin(int kind, int tons, int spin) {
            this.kind = kind;
            this.tons = tons;
            this.spin = spin;
            stock[WATER] = 0;
            stock[METAL] = 0;
            worth = 0;
            owner = NONE;
            restU = 0;
            restV = 0;
            low = 1;
            high = MOST_TONS;
        }

        void copyFrom(Rock other) {
            begin(other.kind, other.tons, other.spin);
            body.copyFrom(other.body);
            stock[WATER] = other.stock[WATER];
            stock[METAL] = other.stock[METAL];
            worth = other.worth;
            owner = other.owner;
            restU = other.restU;
            restV = other.restV;
            low = other.low;
            high = other.high;
        }

        /** A DOCKED TUG pushes: what is too little for a whole SPEED stays in REST. */
        void pushBy(int p, int q) {
            if (tons < 1) return;
            restU += 1000 * p;
            restV += 1000 * q;
            body.push(restU / tons, restV / tons);
            restU %= tons;
            restV %= tons;
        }
    }

    private static final class Tug {
        /** PLACE and SPEED while it is FREE. */
        final Body free = new Body();
        /** By WATER and METAL. */
        final int[] hold = new int[2];
        final int[] known = new int[KNOWN_WIDTH];
        int kind, fuel, wheel, dock, program, step, aim, burnt, made;
        boolean dark;

        void begin(int kind, int fuel) {
            this.kind = kind;
            this.fuel = fuel;
            hold[WATER] = 0;
            hold[METAL] = 0;
            wheel = 0;
            dock = NONE;
            program = NONE;
            step = 0;
            aim = 0;
            burnt = 0;
            made = 0;
            dark = false;
            known[KNOWN_DAY] = -1;
        }

        void copyFrom(Tug other) {
            begin(other.kind, other.fuel);
            free.copyFrom(other.free);
            for (int i = 0; i < KNOWN_WIDTH; i++) known[i] = other.known[i];
            hold[WATER] = other.hold[WATER];
            hold[METAL] = other.hold[METAL];
            wheel = other.wheel;
            dock = other.dock;
            program = other.program;
            step = other.step;
            aim = other.aim;
            burnt = other.burnt;
            made = other.made;
            dark = other.dark;
        }

        boolean isKnown() {
            return known[KNOWN_DAY] >= 0;
        }

        int room() {
            return (kind == HAULER ? 100 : 20) - hold[WATER] - hold[METAL];
        }

        void burnFuel(int much) {
            fuel -= much;
            burnt += much;
        }
    }

    private static final class Contract {
        int what, tons, rock, day, pay, got;
        /** The DAY on which it was MET, or NONE. */
        int met;

        void begin(int what, int tons, int rock, int day, int pay) {
            this.what = what;
            this.tons = tons;
            this.rock = rock;
            this.day = day;
            this.pay = pay;
            got = 0;
            met = NONE;
        }

        void copyFrom(Contract other) {
            begin(other.what, other.tons, other.rock, other.day, other.pay);
            got = other.got;
            met = other.met;
        }

        /** VOID is never written down: it follows from the DAY. */
        boolean isOpen(int today) {
            return met == NONE && today <= day;
        }

        /** It takes what it lacks of so many tons: how many. */
        int take(int offered, int today) {
            int taken = Math.min(offered, tons - got);
            got += taken;
            if (got == tons) met = today;
            return taken;
        }
    }

    private static final class Window {
        int from, to, open, close, fuel, days;

        void copyFrom(Window other) {
            from = other.from;
            to = other.to;
            open = other.open;
            close = other.close;
            fuel = other.fuel;
            days = other.days;
        }
    }

    /** All that AN IMAGE keeps. */
    private static final class World {
        final Sun[] sun = new Sun[MOST_SUNS];
        final Rock[] rock = new Rock[MOST_ROCKS];
        final Tug[] tug = new Tug[MOST_TUGS];
        final Contract[] contract = new Contract[MOST_CONTRACTS];
        final Window[] window = new Window[MOST_WINDOWS];
        int suns, rocks, tugs, contracts, windows;
        final Rows[] code = new Rows[PROGRAMS];
        final Rows orders = new Rows(MOST_ORDERS, 3);
        final Rows reports = new Rows(MOST_REPORTS, REPORT_WIDTH);
        final Rows claims = new Rows(MOST_CLAIMS, 3);
        /** ROWS of the latest TOUR, if there was one. */
        final Rows tour = new Rows(MOST_LEGS, LEG_WIDTH);
        boolean toured;
        final int[] rules = {1000, 100, 10};
        int today;

        World() {
            for (int i = 0; i < MOST_SUNS; i++) sun[i] = new Sun();
            for (int i = 0; i < MOST_ROCKS; i++) rock[i] = new Rock();
            for (int i = 0; i < MOST_TUGS; i++) tug[i] = new Tug();
            for (int i = 0; i < MOST_CONTRACTS; i++) contract[i] = new Contract();
            for (int i = 0; i < MOST_WINDOWS; i++) window[i] = new Window();
            // no byte of THE TAPE needs more than one row of code
            for (int i = 0; i < PROGRAMS; i++) code[i] = new Rows(MOST_TAPE, 2);
        }

        void copyFrom(World other) {
            suns = other.suns;
            rocks = other.rocks;
            tugs = other.tugs;
            contracts = other.contracts;
            windows = other.windows;
            for (int i = 0; i < suns; i++) sun[i].begin(other.sun[i].x, other.sun[i].y, other.sun[i].pull);
            for (int i = 0; i < rocks; i++) rock[i].copyFrom(other.rock[i]);
            for (int i = 0; i < tugs; i++) tug[i].copyFrom(other.tug[i]);
            for (int i = 0; i < contracts; i++) contract[i].copyFrom(other.contract[i]);
            for (int i = 0; i < windows; i++) window[i].copyFrom(other.window[i]);
            for (int i = 0; i < PROGRAMS; i++) code[i].copyFrom(other.code[i]);
            orders.copyFrom(other.orders);
            reports.copyFrom(other.reports);
            claims.copyFrom(other.claims);
            tour.copyFrom(other.tour);
            toured = other.toured;
            for (int i = 0; i < rules.length; i++) rules[i] = other.rules[i];
            today = other.today;
        }

        boolean isRock(int number) {
            return number >= 0 && number < rocks;
        }

        boolean isTug(int number) {
            return number >= 0 && number < tugs;
        }

        boolean isDocked(Tug of) {
            return isRock(of.dock);
        }

        Body bodyOf(Tug of) {
            return isRock(of.dock) ? rock[of.dock].body : of.free;
        }

        boolean hasBerth(int number) {
            if (!isRock(number)) return false;
            if (rock[number].kind == STATION) return true;
            for (int i = 0; i < tugs; i++) {
                if (tug[i].dock == number) return false;
            }
            return true;
        }

        int programsWritten() {
            int many = 0;
            for (int i = 0; i < PROGRAMS; i++) {
                if (code[i].rows() > 0) many++;
            }
            return many;
        }

        void stopAll(int program) {
            for (int i = 0; i < tugs; i++) {
                if (tug[i].program == program) tug[i].program = NONE;
            }
        }

        /** When comes what goes today between a body and PLACE 0, 0. */
        int arrival(Body body) {
            int light = Math.max(1, rules[LIGHT]);
            return today + 1 + body.farFromPlace(0, 0) / light;
        }

        /** Part (a) of a DAY. */
        void receive() {
            for (int i = 0; i < orders.rows(); i++) {
                if (orders.at(i, DUE) <= today) begin(orders.at(i, OF_TUG), orders.at(i, SUBJECT));
            }
            orders.dropUpTo(today);
            for (int i = 0; i < reports.rows(); i++) {
                if (reports.at(i, DUE) <= today) hear(i);
            }
            reports.dropUpTo(today);
            for (int i = 0; i < claims.rows(); i++) {
                if (claims.at(i, DUE) <= today) own(claims.at(i, SUBJECT), claims.at(i, OF_TUG));
            }
            claims.dropUpTo(today);
        }

        private void begin(int number, int program) {
            if (!isTug(number) || !within(program, 0, PROGRAMS - 1)) return;
            tug[number].program = code[program].rows() > 0 ? program : NONE;
            tug[number].step = 0;
        }

        /** A REPORT that was overtaken by a later one is not KNOWN any more. */
        private void hear(int report) {
            int number = reports.at(report, OF_TUG);
            if (!isTug(number)) return;
            int[] known = tug[number].known;
            if (reports.at(report, SUBJECT + KNOWN_DAY) <= known[KNOWN_DAY]) return;
            for (int i = 0; i < KNOWN_WIDTH; i++) known[i] = reports.at(report, SUBJECT + i);
        }

        private void own(int number, int owner) {
            if (isRock(number) && rock[number].owner == NONE) rock[number].owner = owner;
        }

        void sendClaim(int number) {
            if (!isTug(number)) return;
            int claim = claims.add();
            if (claim < 0) return;
            claims.put(claim, DUE, arrival(bodyOf(tug[number])));
            claims.put(claim, OF_TUG, number);
            claims.put(claim, SUBJECT, tug[number].dock);
        }

        /** Part (c) of a DAY. */
        void drift() {
            for (int i = 0; i < rocks; i++) driftBody(rock[i].body);
            for (int i = 0; i < tugs; i++) {
                if (!isDocked(tug[i])) driftBody(tug[i].free);
            }
        }

        void driftBody(Body body) {
            for (int i = 0; i < suns; i++) sun[i].draw(body);
            body.move();
        }

        /** Part (d) of a DAY. */
        void endDay() {
            for (int i = 0; i < tugs; i++) {
                if (!tug[i].dark) sendReport(i);
            }
            today++;
        }

        private void sendReport(int number) {
            int report = reports.add();
            if (report < 0) return;
            Body body = bodyOf(tug[number]);
            reports.put(report, DUE, arrival(body));
            reports.put(report, OF_TUG, number);
            reports.put(report, SUBJECT, body.x);
            reports.put(report, SUBJECT + 1, body.y);
            reports.put(report, SUBJECT + 2, body.u);
            reports.put(report, SUBJECT + 3, body.v);
            reports.put(report, SUBJECT + KNOWN_FUEL, tug[number].fuel);
            reports.put(report, SUBJECT + KNOWN_DAY, today);
        }

        /** THE PATCH: least x, greatest x, least y, greatest y (end 0 .. 3). */
        int patchEnd(Tug of, int end) {
            long n = today - of.known[KNOWN_DAY] - 1;
            long spread = rules[GROWTH] * n * (n + 1) / 2;
            int axis = end < 2 ? 0 : 1;
            long middle = of.known[axis] + n * of.known[axis + 2];
            return held(end % 2 == 0 ? middle - spread : middle + spread, -EDGE, EDGE);
        }
    }

    /** Makes the code of a PROGRAM from THE TAPE. */
    private static final class Parser {
        private static final int AT_END = 0, LETTERS = 1, DIGITS = 2, SIGN = 3, WRONG = 4;
        private static final int TEST_LEVEL = 2, PART_LEVEL = 5;
        private static final int MOST_BRACES = 4, MOST_BRACKETS = 8, MOST_SIGNS = 8;

        private int[] text = {};
        private int length;
        private Rows code;
        /** The word or sign that is next: its kind and its bytes from .. to (to not with it). */
        private int kind, from, to;
        private int braces, brackets, signs;
        private int many;

        /** How many S it has, or -100 less the place of its fault, and no code then. */
        int parse(int[] text, int length, Rows code) {
            this.text = text;
            this.length = Math.min(length, text.length);
            this.code = code;
            code.empty();
            to = 0;
            kind = AT_END;
            braces = 0;
            brackets = 0;
            signs = 0;
            many = 0;
            goOn();
            if (acts() && kind == AT_END) return many;
            code.empty();
            return -100 - from;
        }

        private int byteAt(int place) {
            return place >= 0 && place < length && place < text.length ? text[place] : -1;
        }

        private int kindAt(int place) {
            int b = byteAt(place);
            if (b < 0) return AT_END;
            if (b >= 'a' && b <= 'z') return LETTERS;
            return b >= '0' && b <= '9' ? DIGITS : SIGN;
        }

        private void goOn() {
            boolean behindWord = kind == LETTERS || kind == DIGITS;
            int behind = to;
            from = to;
            while (from < length && byteAt(from) == ' ') from++;
            kind = kindAt(from);
            to = Math.min(from + 1, length);
            if (kind == LETTERS || kind == DIGITS) {
                while (to < length && kindAt(to) == kind) to++;
                boolean glued = behindWord && from == behind;
                if (glued || kind == DIGITS && to - from > 5) kind = WRONG;
            }
        }

        private boolean isSign(int sign) {
            return kind == SIGN && byteAt(from) == sign;
        }

        private boolean passSign(int sign) {
            if (!isSign(sign)) return false;
            goOn();
            return true;
        }

        /** The number of the word of S that is next, or below 0. */
        private int wordNext() {
            if (kind != LETTERS || to - from >= WORD_WIDTH) return -1;
            for (int word = 0; word < WORD_COUNT; word++) {
                if (isWord(word * WORD_WIDTH)) return word;
            }
            return -1;
        }

        private boolean isWord(int column) {
            int letters = to - from;
            for (int i = 0; i < letters; i++) {
                if (byteAt(from + i) != WORDS.charAt(column + i)) return false;
            }
            return WORDS.charAt(column + letters) == ' ';
        }

        private int valueNext() {
            int value = 0;
            for (int i = from; i < to; i++) value = value * 10 + byteAt(i) - '0';
            return value;
        }

        private int emit(int op, int arg) {
            int row = code.add();
            code.put(row, OP, op);
            code.put(row, ARG, arg);
            return row;
        }

        private void leadHere(int row) {
            code.put(row, ARG, code.rows());
        }

        /** One or more S; false: the word or sign that is next is the fault. */
        private boolean acts() {
            if (!act()) return false;
            for (int i = 0; i < MOST_TAPE && !isSign('}') && kind != AT_END; i++) {
                if (!act()) return false;
            }
            return true;
        }

        private boolean act() {
            int word = wordNext();
            if (word < 0 || word == ELSE) return false;
            many++;
            goOn();
            switch (word) {
                case AIM: return aim();
                case BURN:
                    if (!expression(0) || !passSign(',') || !expression(0)) return false;
                    break;
                case UNTIL:
                    if (!expression(0)) return false;
                    break;
                case IF: return choice();
                case WHILE: return loop();
                default:
            }
            emit(word, 0);
            return true;
        }

        private boolean aim() {
            if (kind != DIGITS) return false;
            emit(AIM, valueNext());
            goOn();
            return true;
        }

        private boolean choice() {
            if (!expression(0)) return false;
            int asked = emit(IF, 0);
            if (!block()) return false;
            if (wordNext() != ELSE) {
                leadHere(asked);
                return true;
            }
            goOn();
            int over = emit(JUMP, 0);
            leadHere(asked);
            if (!block()) return false;
            leadHere(over);
            return true;
        }

        private boolean loop() {
            int start = code.rows();
            if (!expression(0)) return false;
            int asked = emit(WHILE, 0);
            if (!block()) return false;
            emit(JUMP, start);
            leadHere(asked);
            return true;
        }

        private boolean block() {
            if (braces >= MOST_BRACES || !passSign('{')) return false;
            braces++;
            if (!acts() || !passSign('}')) return false;
            braces--;
            return true;
        }

        /** E is level 0; each level binds closer than the one ahead, down to PART. */
        private boolean expression(int level) {
            if (level >= PART_LEVEL) return part();
            if (!expression(level + 1)) return false;
            for (int i = 0; i < MOST_TAPE && joinsAt(level); i++) {
                int sign = byteAt(from);
                goOn();
                if (!expression(level + 1)) return false;
                emit(sign, 0);
                if (level == TEST_LEVEL) return true;
            }
            return true;
        }

        private boolean joinsAt(int level) {
            switch (level) {
                case 0: return isSign('|');
                case 1: return isSign('&');
                case TEST_LEVEL: return isSign('<') || isSign('=') || isSign('>');
                case 3: return isSign('+') || isSign('-');
                default: return isSign('*') || isSign('/');
            }
        }

        private boolean part() {
            if (kind == DIGITS) {
                emit(NUMBER, valueNext());
                goOn();
                return true;
            }
            if (kind == LETTERS) return name();
            if (isSign('!') || isSign('-')) return signed();
            if (brackets >= MOST_BRACKETS || !passSign('(')) return false;
            brackets++;
            if (!expression(0) || !passSign(')')) return false;
            brackets--;
            return true;
        }

        private boolean name() {
            int letter = byteAt(from);
            if (to - from != 1 || NAMES.indexOf((char) letter) < 0) return false;
            emit(NAME, letter);
            goOn();
            return true;
        }

        private boolean signed() {
            if (signs >= MOST_SIGNS) return false;
            int op = isSign('!') ? '!' : MINUS;
            goOn();
            signs++;
            if (!part()) return false;
            signs--;
            emit(op, 0);
            return true;
        }
    }

    /** Part (b) of a DAY: a TUG goes through its PROGRAM. */
    private static final class Runner {
        private static final int MOST_STEPS = 30, MOST_BURN = 9, MOST_WHEEL = 50;
        private static final int DOCK_FAR = 100, DOCK_SPEED = 50, DOCK_SPIN = 20;

        /** Values of the E that is worked out; no E has more rows than THE TAPE has bytes. */
        private final int[] stack = new int[MOST_TAPE];
        private int top;
        private World world;
        private Tug tug;
        private int number;

        void live(World world, int number) {
            if (!world.isTug(number)) return;
            this.world = world;
            this.number = number;
            tug = world.tug[number];
            for (int i = 0; i < MOST_STEPS; i++) {
                if (endsDay()) return;
            }
        }

        /** One S is done or asked: whether it took the DAY, or none is left. */
        private boolean endsDay() {
            if (!within(tug.program, 0, PROGRAMS - 1)) return true;
            Rows code = world.code[tug.program];
            int start = behindJumps(code, tug.step);
            if (start >= code.rows()) {
                tug.program = NONE;
                return true;
            }
            int row = workOut(code, start);
            int arg = code.at(row, ARG);
            tug.step = row + 1;
            switch (code.at(row, OP)) {
                case AIM:
                    tug.aim = arg;
                    return false;
                case IF:
                case WHILE:
                    if (pop() == 0) tug.step = arg;
                    return false;
                case UNTIL:
                    if (pop() != 0) return false;
                    tug.step = start;
                    return true;
                case DOCK:
                    if (!dock()) tug.step = start;
                    return true;
                default:
                    act(code.at(row, OP));
                    return true;
            }
        }

        private static int behindJumps(Rows code, int step) {
            int at = step;
            for (int i = 0; i < MOST_TAPE && at < code.rows() && code.at(at, OP) == JUMP; i++) {
                at = code.at(at, ARG);
            }
            return at;
        }

        /** What an S asks is worked out: the row of the S itself. */
        private int workOut(Rows code, int start) {
            top = 0;
            int row = start;
            while (row < code.rows() && code.at(row, OP) > LAST_ACT) {
                int op = code.at(row, OP);
                if (op == NUMBER) push(code.at(row, ARG));
                else if (op == NAME) push(sensed(code.at(row, ARG)));
                else if (op == MINUS) push(-pop());
                else if (op == '!') push(pop() == 0 ? 1 : 0);
                else push(joined(op, pop(), pop()));
                row++;
            }
            return row;
        }

        private static int joined(int sign, int right, int left) {
            switch (sign) {
                case '|': return left != 0 || right != 0 ? 1 : 0;
                case '&': return left != 0 && right != 0 ? 1 : 0;
                case '<': return left < right ? 1 : 0;
                case '=': return left == right ? 1 : 0;
                case '>': return left > right ? 1 : 0;
                case '+': return left + right;
                case '-': return left - right;
                case '*': return left * right;
                default: return right == 0 ? 0 : left / right;
            }
        }

        private void push(int v) {
            if (top >= stack.length) return;
            stack[top] = v;
            top++;
        }

        private int pop() {
            if (top < 1) return 0;
            top--;
            return stack[top];
        }

        private int sensed(int name) {
            switch (name) {
                case 'f': return tug.fuel;
                case 'w': return tug.hold[WATER];
                case 'm': return tug.hold[METAL];
                case 't': return world.today;
                case 'k': return world.isDocked(tug) ? 1 : 0;
                case 's': return tug.wheel;
                default: return ahead(name);
            }
        }

        private int ahead(int name) {
            if (!world.isRock(tug.aim)) return 0;
            Body goal = world.rock[tug.aim].body;
            Body own = world.bodyOf(tug);
            switch (name) {
                case 'x': return goal.x - own.x;
                case 'y': return goal.y - own.y;
                case 'u': return goal.u - own.u;
                default: return goal.v - own.v;
            }
        }

        private void act(int op) {
            if (op == BURN) burn();
            if (op == MAKE) make();
            if (op == BURN || op == MAKE || op == WAIT || !world.isDocked(tug)) return;
            Rock at = world.rock[tug.dock];
            switch (op) {
                case FREE:
                    tug.free.copyFrom(at.body);
                    tug.dock = NONE;
                    return;
                case DIG:
                    if (at.kind == ICY) dig(at, WATER);
                    else if (at.kind == ORE) dig(at, METAL);
                    return;
                case STILL:
                    still(at);
                    return;
                case CLAIM:
                    if (at.kind != STATION) world.sendClaim(number);
                    return;
                case GIVE:
                    if (at.kind != STATION) return;
                    give(at, WATER);
                    give(at, METAL);
                    return;
                case SHED:
                    if (at.kind == STATION) shed(at);
                    return;
                default:
            }
        }

        private void burn() {
            int q = held(pop(), -MOST_BURN, MOST_BURN);
            int p = held(pop(), -MOST_BURN, MOST_BURN);
            int cost = Math.abs(p) + Math.abs(q);
            if (tug.fuel < cost) return;
            tug.burnFuel(cost);
            if (world.isDocked(tug)) world.rock[tug.dock].pushBy(p, q);
            else tug.free.push(10 * p, 10 * q);
        }

        private void make() {
            if (tug.kind != MINT) return;
            int much = Math.min(Math.min(tug.hold[WATER], 5), MOST_FUEL - tug.fuel);
            tug.hold[WATER] -= much;
            tug.fuel += much;
            tug.made += much;
        }

        /** Whether the next S is next. */
        private boolean dock() {
            if (world.isDocked(tug)) return true;
            if (!world.isRock(tug.aim)) return false;
            Rock goal = world.rock[tug.aim];
            boolean near = tug.free.farFrom(goal.body) <= DOCK_FAR;
            boolean slow = within(goal.body.u - tug.free.u, -DOCK_SPEED, DOCK_SPEED)
                    && within(goal.body.v - tug.free.v, -DOCK_SPEED, DOCK_SPEED);
            boolean calm = within(goal.spin, -DOCK_SPIN, DOCK_SPIN);
            if (!near || !slow || !calm || !world.hasBerth(tug.aim)) return false;
            tug.dock = tug.aim;
            return true;
        }

        private void dig(Rock at, int what) {
            int most = isUnder(tug.kind, DIGGER) ? 20 : 5;
            int much = Math.min(Math.min(at.stock[what], tug.room()), most);
            at.stock[what] -= much;
            tug.hold[what] += much;
        }

        private void give(Rock at, int what) {
            int left = tug.hold[what];
            for (int i = 0; i < world.contracts && left > 0; i++) {
                Contract asks = world.contract[i];
                boolean fits = asks.rock == tug.dock && asks.what == what;
                if (fits && asks.isOpen(world.today)) left -= asks.take(left, world.today);
            }
            int stored = Math.min(left, MOST_STOCK - at.stock[what]);
            at.stock[what] += stored;
            tug.hold[what] = left - stored;
        }

        private void still(Rock at) {
            if (tug.fuel < 1) return;
            int wheel = held(tug.wheel + held(at.spin, -5, 5), -MOST_WHEEL, MOST_WHEEL);
            int taken = wheel - tug.wheel;
            if (taken == 0) return;
            at.spin -= taken;
            tug.wheel = wheel;
            tug.burnFuel(1);
        }

        private void shed(Rock at) {
            int spin = held(at.spin + tug.wheel, -MOST_SPIN, MOST_SPIN);
            tug.wheel -= spin - at.spin;
            at.spin = spin;
        }
    }

    /** Seeks THE TOUR among all of them. */
    private static final class Seeker {
        private final Rows path = new Rows(MOST_LEGS, LEG_WIDTH);
        final Rows best = new Rows(MOST_LEGS, LEG_WIDTH);
        int bestWorth;
        private int bestEnd;
        private World world;
        private int end, triesLeft;
        private boolean spent;
        /** Bits of WINDOWS that stand in the path. */
        private int put;

        /** Whether there were enough TRIES. */
        boolean seek(World world, int rock, int day, int fuel, int end, int tries) {
            this.world = world;
            this.end = end;
            triesLeft = tries;
            spent = false;
            put = 0;
            path.empty();
            best.empty();
            bestWorth = 0;
            bestEnd = day;
            goFrom(rock, day, fuel, 0, 1 << rock);
            return !spent;
        }

        /** All ways on; seen: bits of ROCKS whose WORTH counts no more. */
        private void goFrom(int rock, int day, int fuel, int worth, int seen) {
            if (path.rows() >= MOST_LEGS) return;
            for (int i = 0; i < world.windows && !spent; i++) {
                Window next = world.window[i];
                if (next.from != rock || (put >> i & 1) != 0) continue;
                int left = Math.max(day, next.open);
                int ends = left + next.days;
                if (left > next.close || ends > end) continue;
                int rest = fuelWaited(rock, fuel, left - day) - next.fuel;
                if (rest < 0) continue;
                if (triesLeft < 1) {
                    spent = true;
                    return;
                }
                triesLeft--;
                boolean isNew = (seen >> next.to & 1) == 0;
                int gained = worth + (isNew ? world.rock[next.to].worth : 0);
                step(i, left, ends, rest);
                if (isBetter(gained, ends)) take(gained, ends);
                put |= 1 << i;
                goFrom(next.to, ends, rest, gained, seen | 1 << next.to);
                put &= ~(1 << i);
                path.dropLast();
            }
        }

        private int fuelWaited(int rock, int fuel, int days) {
            return world.rock[rock].kind == ICY ? Math.min(MOST_FUEL, fuel + days * world.rules[RATE]) : fuel;
        }

        private void step(int window, int left, int ends, int fuel) {
            int row = path.add();
            path.put(row, LEG_WINDOW, window);
            path.put(row, LEG_LEFT, left);
            path.put(row, LEG_ENDS, ends);
            path.put(row, LEG_FUEL, fuel);
        }

        /** Of paths that are alike in this the first one by WINDOWS is met first, and stays. */
        private boolean isBetter(int worth, int ends) {
            if (worth != bestWorth) return worth > bestWorth;
            if (ends != bestEnd) return ends < bestEnd;
            return path.rows() < best.rows();
        }

        private void take(int worth, int ends) {
            best.copyFrom(path);
            bestWorth = worth;
            bestEnd = ends;
        }
    }
}
