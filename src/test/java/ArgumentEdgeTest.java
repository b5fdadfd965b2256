/** Every argument of every call at the last value that is taken and at the first that is refused. */
public final class ArgumentEdgeTest {
    private static final Due due = new Due("ArgumentEdgeTest");
    private static final Edges edges = new Edges(due);
    private static final int BAD = RockTugs.BAD, EDGE = Skies.EDGE;
    private static final int LEAST = Integer.MIN_VALUE, MOST = Integer.MAX_VALUE;

    public static void main(String[] args) {
        sky();
        rocksAsked();
        tugs();
        orders();
        knownAndForetold();
        contracts();
        windows();
        tours();
        sheets();
        due.end();
    }

    /** 3 ROCKS, the last one a STATION, 2 FREE TUGS, 4 PROGRAMS, both SHEETS. */
    private static RockTugs plain() {
        RockTugs x = new RockTugs();
        for (int i = 0; i < 3; i++) x.rock(i == 2 ? 3 : 0, 10 * i, 0, 50, 0);
        for (int i = 0; i < 2; i++) x.tug(i, 10 * i, 0, 50);
        for (int i = 0; i < 4; i++) Due.program(x, i, "while 1{wait}");
        for (int i = 0; i < 2; i++) x.sheet(i, 5 + i);
        x.keep();
        return x;
    }

    private static void sky() {
        due.says("THE SKY is flat: PLACES x, y and SPEEDS u, v, each -9999999 .. 9999999");
        for (int at = 0; at < 2; at++) edges.range(Skies::busy, at, -EDGE, EDGE, "sun", 0, 0, 5);
        for (int at = 1; at < 3; at++) edges.range(Skies::busy, at, -EDGE, EDGE, "rock", 0, 0, 0, 5, 0);
        for (int at = 1; at < 3; at++) edges.range(Skies::busy, at, -EDGE, EDGE, "speed", 0, 0, 0);
        for (int at = 1; at < 3; at++) edges.range(Skies::busy, at, -EDGE, EDGE, "tug", 0, 0, 0, 5);
        due.says("a PLACE and a PULL 0 .. 999");
        edges.range(Skies::busy, 2, 0, 999, "sun", 0, 0, 5);
        due.says("KINDS 0 ROCK, 1 ICY, 2 ORE, 3 STATION");
        edges.range(Skies::busy, 0, 0, 3, "rock", 0, 0, 0, 5, 0);
        due.says("TONS 1 .. 99999, a SPIN -99 .. 99, STOCKS of WATER and METAL 0 .. 9999, a WORTH 0 .. 999");
        edges.range(Skies::busy, 3, 1, 99999, "rock", 0, 0, 0, 5, 0);
        edges.range(Skies::busy, 4, -99, 99, "rock", 0, 0, 0, 5, 0);
        edges.range(Skies::busy, 2, 0, 9999, "stock", 1, 0, 5);
        edges.range(Skies::busy, 2, 0, 9999, "stock", 1, 1, 5);
        edges.range(Skies::busy, 2, 0, 999, "stock", 1, 2, 5);
    }

    private static void rocksAsked() {
        due.says("SPEED of a ROCK becomes u, v (REST stays): 0. BAD.");
        edges.range(Skies::busy, 0, 0, 2, "speed", 0, 5, 6);
        due.says("STOCK of WATER (what 0), METAL (1), WORTH (2) of a ROCK becomes v: what it was. BAD.");
        edges.range(Skies::busy, 0, 0, 2, "stock", 0, 0, 5);
        edges.range(Skies::busy, 1, 0, 2, "stock", 0, 0, 5);
        due.says("WORTHS of ROCKS come from a SHEET, place by place, as many as there are of both (not 0 .. 999 counts as 0): how many. BAD; NOTHING.");
        edges.range(Skies::full, 0, 0, 1, "lay", 0);
        due.says("Of a ROCK: what 0 KIND, 1 x, 2 y, 3 u, 4 v, 5 TONS, 6 SPIN, 7 WATER, 8 METAL, 9 WORTH, 10 its OWNER (NONE), 11, 12 REST. BAD.");
        edges.range(Skies::busy, 0, 0, 2, "told", 0, 0);
        edges.range(Skies::busy, 1, 0, 12, "told", 0, 0);
        edges.range(Skies::full, 0, 0, 7, "told", 0, 0);
        due.says("Whether a ROCK is of a KIND: 1, 0. BAD.");
        edges.range(Skies::busy, 0, 0, 2, "isOf", 0, 0);
        edges.range(Skies::busy, 1, 0, 3, "isOf", 0, 0);
        due.says("LEARNT of a ROCK: low (end 0), high (1). BAD.");
        edges.range(Skies::busy, 0, 0, 2, "learnt", 0, 0);
        edges.range(Skies::busy, 1, 0, 1, "learnt", 0, 0);
        due.says("BAD: rock, low, high (1 .. 99999, low not above high)");
        edges.range(Skies::busy, 0, 0, 2, "weigh", 0, 1, 99999);
        edges.range(ArgumentEdgeTest::plain, 1, 1, 50, "weigh", 0, 1, 50);
        edges.range(ArgumentEdgeTest::plain, 2, 50, 99999, "weigh", 0, 50, 99999);
    }

    private static void tugs() {
        due.says("KINDS 0 TUG, 1 HAULER, 2 DIGGER, 3 MINT");
        edges.range(Skies::busy, 0, 0, 3, "tug", 0, 0, 0, 5);
        due.says("FUEL 0 .. 999, a hold for WATER and METAL");
        edges.range(Skies::busy, 3, 0, 999, "tug", 0, 0, 0, 5);
        due.says("Whether a TUG is of a KIND: 1, 0. BAD.");
        edges.range(Skies::busy, 0, 0, 1, "is", 0, 0);
        edges.range(Skies::busy, 1, 0, 3, "is", 0, 0);
        due.says("A FREE TUG is DOCKED at a ROCK, wherever it is: 1. BAD;");
        edges.range(ArgumentEdgeTest::plain, 0, 0, 1, "moor", 0, 0);
        edges.range(ArgumentEdgeTest::plain, 1, 0, 2, "moor", 0, 0);
        due.says("A TUG is DARK (on 1) or not (0): what it was. BAD.");
        edges.range(Skies::busy, 0, 0, 1, "dark", 0, 1);
        edges.range(Skies::busy, 1, 0, 1, "dark", 0, 1);
        due.says("12 FUEL that it burnt (by burn and still), 13 that it made. BAD.");
        edges.range(Skies::busy, 0, 0, 1, "has", 0, 0);
        edges.range(Skies::busy, 1, 0, 13, "has", 0, 0);
        edges.range(Skies::full, 0, 0, 3, "has", 0, 0);
    }

    private static void orders() {
        due.says("THE TAPE keeps its first n bytes: n. BAD (n above how many it has, too).");
        edges.range(Skies::busy, 0, 0, 8, "trim", 0);
        edges.range(Skies::full, 0, 0, 120, "trim", 0);
        edges.range(Skies::empty, 0, 0, 0, "trim", 0);
        due.says("An ORDER for a TUG to run a PROGRAM is sent: the DAY on which it comes. BAD;");
        edges.range(ArgumentEdgeTest::plain, 0, 0, 1, "send", 0, 0);
        edges.range(ArgumentEdgeTest::plain, 1, 0, 3, "send", 0, 0);
        due.says("n (1 .. 30) DAYS go by: TODAY. BAD;");
        edges.range(Skies::busy, 0, 1, 30, "run", 1);
        due.says("A rule becomes v: what it was: 0 LIGHT, 1 G, 2 RATE. BAD.");
        edges.range(Skies::busy, 0, 0, 2, "rule", 0, 1);
        due.says("LIGHT goes LIGHT (1 .. 99999; 1000 at first) in a DAY");
        edges.range(Skies::busy, 1, 1, 99999, "rule", 0, 1);
        due.says("G 0 .. 9999 (100 at first)");
        edges.range(Skies::busy, 1, 0, 9999, "rule", 1, 1);
        due.says("it makes RATE (0 .. 50; 10 at first) of FUEL");
        edges.range(Skies::busy, 1, 0, 50, "rule", 2, 1);
    }

    private static void knownAndForetold() {
        due.says("KNOWN of a TUG: what 0 x, 1 y, 2 u, 3 v, 4 FUEL, 5 the DAY. BAD;");
        edges.range(Skies::busy, 0, 0, 1, "known", 0, 0);
        edges.range(Skies::busy, 1, 0, 5, "known", 0, 0);
        due.says("THE PATCH of a TUG: what 0 least x, 1 greatest x, 2 least y, 3 greatest y, 4 whether it holds the TUG as it is now (1, 0). BAD;");
        edges.range(Skies::busy, 0, 0, 1, "patch", 0, 0);
        edges.range(Skies::busy, 1, 0, 4, "patch", 0, 0);
        due.says("THE MISS of two bodies (a ROCK, or 10 and a TUG) in n (0 .. 60) DAYS: FAR (what 0), how many DAYS (1). BAD: also if they are one.");
        edges.range(Skies::busy, 0, 0, 2, "miss", 0, 10, 1, 0);
        edges.range(Skies::busy, 1, 0, 2, "miss", 10, 0, 1, 0);
        edges.range(Skies::busy, 0, 10, 11, "miss", 10, 0, 1, 0);
        edges.range(Skies::busy, 1, 10, 11, "miss", 0, 10, 1, 0);
        edges.range(Skies::full, 0, 10, 13, "miss", 10, 0, 1, 0);
        edges.range(Skies::busy, 2, 0, 60, "miss", 0, 1, 1, 0);
        edges.range(Skies::busy, 3, 0, 1, "miss", 0, 1, 1, 0);
        for (int body : new int[] {3, 7, 8, 9}) {
            edges.refused(BAD, Skies::busy, "miss", body, 0, 1, 0);
            edges.refused(BAD, Skies::busy, "miss", 0, body, 1, 0);
        }
        for (int body : new int[] {0, 1, 2, 10, 11}) edges.refused(BAD, Skies::busy, "miss", body, body, 1, 0);
        for (int body : new int[] {8, 9}) edges.refused(BAD, Skies::full, "miss", body, 0, 1, 0);
    }

    private static void contracts() {
        due.says("BAD: what (0, 1), tons, rock, day (TODAY .. 3000), pay;");
        edges.range(Skies::busy, 0, 0, 1, "contract", 0, 5, 1, 20, 5);
        edges.range(Skies::busy, 1, 1, 999, "contract", 0, 5, 1, 20, 5);
        for (int rock : new int[] {-1, 3, LEAST, MOST}) edges.refused(BAD, ArgumentEdgeTest::plain, "contract", 0, 5, rock, 20, 5);
        edges.taken(ArgumentEdgeTest::plain, "contract", 0, 5, 2, 20, 5);
        edges.range(Skies::busy, 3, 14, 3000, "contract", 0, 5, 1, 20, 5);
        edges.range(Skies::late, 3, 3000, 3000, "contract", 0, 5, 0, 3000, 5);
        edges.refused(BAD, Skies::empty, "contract", 0, 5, 0, 0, 0);
        edges.range(Skies::busy, 4, 0, 9999, "contract", 0, 5, 1, 20, 5);
        due.says("Of a CONTRACT: what 0 tons that it has, 1 the DAY on which it was MET (NONE), 2 whether it is OPEN (1, 0). BAD.");
        edges.range(Skies::busy, 0, 0, 2, "about", 0, 0);
        edges.range(Skies::busy, 1, 0, 2, "about", 0, 0);
        edges.range(Skies::full, 0, 0, 7, "about", 0, 0);
    }

    private static void windows() {
        due.says("BAD: rocks (the same, too), open, close (open not above it), fuel, days;");
        edges.range(Skies::busy, 0, 1, 2, "window", 1, 0, 5, 9, 5, 5);
        edges.range(Skies::busy, 1, 0, 1, "window", 2, 0, 5, 9, 5, 5);
        for (int rock = 0; rock < 3; rock++) edges.refused(BAD, Skies::busy, "window", rock, rock, 5, 9, 5, 5);
        edges.range(Skies::busy, 2, 0, 9, "window", 0, 1, 5, 9, 5, 5);
        edges.range(Skies::busy, 2, 0, 999, "window", 0, 1, 5, 999, 5, 5);
        edges.range(Skies::busy, 3, 5, 999, "window", 0, 1, 5, 9, 5, 5);
        edges.range(Skies::busy, 3, 0, 999, "window", 0, 1, 0, 9, 5, 5);
        edges.range(Skies::busy, 3, 999, 999, "window", 0, 1, 999, 999, 5, 5);
        edges.range(Skies::busy, 4, 0, 999, "window", 0, 1, 5, 9, 5, 5);
        edges.range(Skies::busy, 5, 1, 200, "window", 0, 1, 5, 9, 5, 5);
    }

    private static void tours() {
        due.says("THE TOUR from a ROCK on DAY t (0 .. 999) with FUEL c (0 .. 999) up to DAY end (t .. 2000) is found with so many TRIES (1 .. 20000): its WORTH. BAD;");
        edges.range(Skies::busy, 0, 0, 2, "tour", 0, 5, 5, 99, 9);
        edges.range(Skies::busy, 1, 0, 99, "tour", 0, 5, 5, 99, 9);
        edges.range(Skies::busy, 1, 0, 999, "tour", 0, 5, 5, 2000, 9);
        edges.range(Skies::busy, 2, 0, 999, "tour", 0, 5, 5, 99, 9);
        edges.range(Skies::busy, 3, 5, 2000, "tour", 0, 5, 5, 99, 9);
        edges.range(Skies::busy, 3, 999, 2000, "tour", 0, 999, 5, 999, 9);
        edges.range(Skies::busy, 4, 1, 20000, "tour", 2, 5, 5, 99, 9);
        due.says("The i-th WINDOW of the latest TOUR. BAD: i below 0; NONE: it has not so many, or there was none.");
        for (int i : new int[] {-1, LEAST}) {
            edges.refused(BAD, Skies::busy, "leg", i);
            edges.refused(BAD, Skies::empty, "leg", i);
        }
        for (int i : new int[] {0, 5, 6, MOST}) edges.taken(Skies::busy, "leg", i);
        for (int i : new int[] {0, 1, MOST}) due.is("leg " + i + " of none", new RockTugs().leg(i), RockTugs.NONE);
    }

    private static void sheets() {
        due.says("A SHEET has n places, all 0: n. BAD: sheet, n above 40; SIZE.");
        edges.range(Skies::busy, 0, 0, 1, "sheet", 0, 3);
        for (int n : new int[] {41, MOST}) edges.refused(BAD, Skies::busy, "sheet", 0, n);
        for (int n : new int[] {-1, LEAST}) edges.refused(RockTugs.SIZE, Skies::busy, "sheet", 0, n);
        for (int n : new int[] {0, 40}) edges.taken(Skies::busy, "sheet", 1, n);
        due.says("A place of a SHEET becomes v (as a short): what it was. BAD: sheet; NOTHING; INDEX.");
        edges.range(ArgumentEdgeTest::plain, 0, 0, 1, "mark", 0, 3, 7);
        for (int place : new int[] {-1, LEAST, 5, MOST}) edges.refused(RockTugs.INDEX, Skies::busy, "mark", 0, place, 7);
        for (int place : new int[] {0, 4}) edges.taken(Skies::busy, "mark", 0, place, 7);
        for (int v : new int[] {LEAST, MOST}) edges.taken(Skies::busy, "mark", 0, 0, v);
        due.says("So many places of a SHEET come to another one (or the same), as they were: many. BAD; NOTHING; INDEX");
        edges.range(ArgumentEdgeTest::plain, 0, 0, 1, "copy", 0, 1, 1, 2, 3);
        edges.range(ArgumentEdgeTest::plain, 2, 0, 1, "copy", 0, 1, 1, 2, 3);
        due.says("10 bytes of THE TAPE, 11 TODAY. BAD.");
        edges.range(Skies::busy, 0, 0, 11, "count", 0);
    }
}
