/** Part 3 (b) of the Terms at its edges: what each S does, and when it takes the DAY; promises 11 to 15 and 20. */
public final class ActEdgeTest {
    private static final Due due = new Due("ActEdgeTest");
    private static final int NONE = RockTugs.NONE;
    private static final int[] SIGNS = {1, -1};
    /** 27 steps that take no DAY, for a TUG at PLACE 0, 0 and ROCKS at x 0 to 3. */
    private static final String STEPS_27 = "while x<3{" + "until 1 ".repeat(5) + "if x{if x<2{aim 2}else{aim 3}}else{aim 1}}";

    public static void main(String[] args) {
        tugAtFirst();
        hasOfATug();
        byNumber();
        oneADay();
        thirty();
        thirtyInALoop();
        thirtyAtTheEnd();
        burnEnds();
        burnFree();
        burnCost();
        burnDocked();
        restOfARock();
        dockFar();
        dockSpeed();
        dockSpin();
        dockOthers();
        dockAllEdgesAtOnce();
        dockStays();
        free();
        digStock();
        digRoom();
        digKinds();
        make();
        makeFuel();
        until();
        still();
        stillWheel();
        stillFuel();
        shed();
        cantBeDone();
        eachDoesItsOwn();
        due.end();
    }

    private static String value(int v) {
        return v < 0 ? "0-" + -v : "" + v;
    }

    private static void tugAtFirst() {
        due.says("One more TUG, FREE at a PLACE, with SPEED 0: its number.");
        int[][] made = {{0, 5, -6, 0}, {1, -Skies.EDGE, Skies.EDGE, 999}, {2, 0, 0, 1}, {3, Skies.EDGE, -Skies.EDGE, 998}};
        RockTugs x = new RockTugs();
        for (int i = 0; i < 4; i++) {
            int[] a = made[i];
            due.is("number", Skies.call(x, "tug", a), i);
            int[] want = {a[0], a[1], a[2], 0, 0, a[3], 0, 0, 0, NONE, NONE, 0, 0, 0};
            for (int what = 0; what < want.length; what++) due.is("has " + what, x.has(i, what), want[what]);
            due.is("not DARK", x.dark(i, 0), 0);
            due.is("not KNOWN", x.known(i, 0), NONE);
        }
        due.says("A TUG is DOCKED at a ROCK (it has its PLACE and SPEED then), or FREE.");
        x.rock(0, 11, 12, 1, 0);
        x.speed(0, 13, 14);
        x.moor(3, 0);
        for (int i = 0; i < 4; i++) due.is("as its ROCK", x.has(3, 1 + i), 11 + i);
        due.is("DOCKED at", x.has(3, 9), 0);
        x.speed(0, -1, -2);
        due.is("as its ROCK", x.has(3, 3), -1);
        due.is("as its ROCK", x.has(3, 4), -2);
    }

    private static void hasOfATug() {
        due.says("Of a TUG: what 0 KIND, 1 x, 2 y, 3 u, 4 v, 5 FUEL, 6 WATER, 7 METAL, 8 WHEEL, 9 the ROCK at which it is DOCKED (NONE), 10 its PROGRAM (NONE), 11 the ROCK at which it AIMS (a number, whether there is one or not), 12 FUEL that it burnt (by burn and still), 13 that it made. BAD.");
        RockTugs x = new RockTugs();
        x.rock(1, 0, 0, 1, -4);
        x.rock(2, 0, 0, 1, 0);
        x.stock(0, 0, 11);
        x.stock(1, 1, 3);
        x.tug(0, 0, 0, 0);
        x.tug(3, 0, 0, 100);
        Due.program(x, 3, "until k dig make still free until k dig burn 3,-4 aim 99999 until 0");
        x.send(1, 3);
        x.run(2);
        due.is("AIMS at first", x.has(1, 11), 0);
        due.is("PROGRAM", x.has(1, 10), 3);
        due.is("not DOCKED", x.has(1, 9), NONE);
        x.moor(1, 0);
        x.run(4);
        x.moor(1, 1);
        x.run(3);
        x.speed(1, 21, -22);
        x.run(1);
        int[] want = {3, x.told(1, 1), x.told(1, 2), 21, -22, 97, 6, 3, -4, 1, 3, 99999, 8, 5};
        for (int what = 0; what < want.length; what++) due.is("has " + what, x.has(1, what), want[what]);
        due.is("what -1", x.has(1, -1), RockTugs.BAD);
        due.is("what 14", x.has(1, 14), RockTugs.BAD);
        due.is("the other one has no PROGRAM", x.has(0, 10), NONE);
        due.says("a WHEEL of SPIN (0 at first).");
        due.is("0 at first", x.has(0, 8), 0);
        due.says("It may be DARK.");
        for (int i = 0; i < 2; i++) due.is("not at first", x.dark(i, 1), 0);
    }

    /** All four begin on the same DAY. */
    private static RockTugs four(String... programs) {
        RockTugs x = new RockTugs();
        for (int i = 0; i < programs.length; i++) {
            x.tug(0, 0, 0, 99);
            Due.program(x, i, programs[i]);
            x.send(i, i);
        }
        x.run(1);
        return x;
    }

    private static void byNumber() {
        due.says("Each TUG by number that has a PROGRAM goes through its S");
        RockTugs x = four("dock", "dock", "dock", "dock");
        x.rock(0, 0, 0, 1, 0);
        x.run(1);
        for (int i = 0; i < 4; i++) due.is("the first one has it", x.has(i, 9), i == 0 ? 0 : NONE);
        RockTugs frees = four("free", "dock");
        frees.rock(0, 0, 0, 1, 0);
        frees.moor(0, 0);
        frees.run(1);
        due.is("freed", frees.has(0, 9), NONE);
        due.is("the next one finds it free on the same DAY", frees.has(1, 9), 0);
        RockTugs waits = four("dock", "free");
        waits.rock(0, 0, 0, 1, 0);
        waits.moor(1, 0);
        waits.run(1);
        due.is("the one ahead does not yet", waits.has(0, 9), NONE);
        waits.run(1);
        due.is("but on the next DAY", waits.has(0, 9), 0);
    }

    private static void oneADay() {
        due.says("goes through its S till one takes the DAY, or none is left (it has none any more then)");
        RockTugs x = four("burn 1,0 burn 1,0 burn 1,0");
        for (int day = 1; day <= 3; day++) {
            x.run(1);
            due.is("one a DAY", x.has(0, 12), day);
            due.is("PROGRAM", x.has(0, 10), 0);
        }
        x.run(1);
        due.is("none is left", x.has(0, 10), NONE);
        due.is("FUEL", x.has(0, 12), 3);
        RockTugs y = four("aim 3");
        y.run(1);
        due.is("none is left on the same DAY", y.has(0, 10), NONE);
        due.is("AIMS", y.has(0, 11), 3);
        RockTugs z = four("if 0{wait}", "while 0{wait}", "until 1", "if 1{aim 2}else{wait}");
        z.run(1);
        for (int i = 0; i < 4; i++) due.is("none is left on the same DAY", z.has(i, 10), NONE);
    }

    /** A TUG that is DOCKED at ROCK 0 runs a text from DAY 1 on; it is DAY 1. */
    private static RockTugs rows(String text) {
        RockTugs x = new RockTugs();
        for (int i = 0; i < 4; i++) x.rock(0, i, 0, 5, 0);
        x.tug(0, 0, 0, 99);
        x.moor(0, 0);
        due.is("a good text " + text, Due.program(x, 0, text) > 0 ? 1 : 0, 1);
        x.send(0, 0);
        x.run(1);
        return x;
    }

    private static void thirty() {
        due.says("or it went through 30 that do not take it (aim, if, while, each time that it is asked, until that ends; it goes on there in the next DAY");
        String[] last = {"aim 9 ", "if 0{dig}", "if 1{free}", "until 1 "};
        String[] before = {"aim 4 ", "aim 4 aim 4 ", "aim 4 aim 4 aim 4 "};
        for (int many = 0; many < 3; many++) {
            RockTugs x = rows(STEPS_27 + before[many] + "free");
            x.run(1);
            due.is("behind " + (28 + many), x.has(0, 9), many < 2 ? NONE : 0);
            x.run(1);
            due.is("behind " + (28 + many), x.has(0, 9), NONE);
        }
        for (String kind : last) {
            String free = kind.endsWith("{free}") ? "" : "free";
            // the 29th, then the 30th step is of this kind
            RockTugs x = rows(STEPS_27 + "aim 4 " + kind + free);
            x.run(1);
            due.is("behind 29 with " + kind, x.has(0, 9), NONE);
            RockTugs y = rows(STEPS_27 + "aim 4 aim 4 " + kind + free);
            y.run(1);
            due.is("behind 30 with " + kind, y.has(0, 9), 0);
            due.is("it has its PROGRAM", y.has(0, 10), 0);
            y.run(1);
            due.is("it goes on there with " + kind, y.has(0, 9), NONE);
        }
        // while is asked a last time as the 27th, so that of three more steps ahead of it one is too many
        for (int many = 1; many <= 4; many++) {
            RockTugs x = rows("aim 0 ".repeat(many) + STEPS_27.replace("until 1 until 1 ", "until 1 ") + "free");
            // 24 steps with one until less in each of the three rounds
            x.run(1);
            due.is("24 and " + many, x.has(0, 9), NONE);
        }
    }

    private static void thirtyInALoop() {
        due.says("while, each time that it is asked");
        RockTugs x = new RockTugs();
        x.tug(0, 0, 0, 0);
        Due.program(x, 0, "while 1{aim 1 aim 2}");
        x.send(0, 0);
        x.run(2);
        // ten rounds of three
        due.is("DAY 1", x.has(0, 11), 2);
        RockTugs y = new RockTugs();
        y.tug(0, 0, 0, 0);
        Due.program(y, 0, "aim 5 while 1{aim 1 aim 2}");
        y.send(0, 0);
        y.run(2);
        // one, nine rounds of three, asked, aim 1
        due.is("DAY 1", y.has(0, 11), 1);
        y.run(1);
        // aim 2, nine rounds, asked, aim 1
        due.is("DAY 2", y.has(0, 11), 1);
        RockTugs z = new RockTugs();
        z.tug(0, 0, 0, 0);
        Due.program(z, 0, "while 1{if 0{dig}else{aim 6}aim 7 aim 8}");
        z.send(0, 0);
        z.run(2);
        // six rounds of five
        due.is("DAY 1", z.has(0, 11), 8);
        RockTugs a = new RockTugs();
        a.tug(0, 0, 0, 0);
        Due.program(a, 0, "while 1{aim 7 until 1 aim 8 until 0}");
        a.send(0, 0);
        a.run(30);
        due.is("until takes the DAY", a.has(0, 11), 8);
        due.is("for good", a.has(0, 10), 0);
    }

    private static void thirtyAtTheEnd() {
        due.says("it goes on there in the next DAY, or finds then that none is left)");
        for (int aims = 1; aims <= 4; aims++) {
            RockTugs x = rows(STEPS_27 + "aim 4 ".repeat(aims - 1) + "aim 5");
            x.run(1);
            due.is("AIMS with " + aims, x.has(0, 11), aims < 4 ? 5 : 4);
            due.is("PROGRAM with " + aims, x.has(0, 10), aims < 3 ? NONE : 0);
            x.run(1);
            due.is("AIMS with " + aims, x.has(0, 11), 5);
            due.is("PROGRAM with " + aims, x.has(0, 10), NONE);
        }
        RockTugs loop = rows(STEPS_27.replace("while x<3", "while x<4"));
        loop.run(1);
        due.is("in a loop that does not end", loop.has(0, 10), 0);
    }

    private static void burnEnds() {
        due.says("burn E, E: p, q, each -9 at least and 9 at most (what is beyond is that end).");
        int[] asked = {0, 1, 8, 9, 10, 11, 99999, -1, -8, -9, -10, -11, -99999};
        for (int v : asked) {
            int want = Math.max(-9, Math.min(9, v));
            RockTugs x = four("burn " + value(v) + ",0", "burn 0," + value(v), "burn " + value(v) + "," + value(-v));
            x.run(1);
            due.is("u", x.has(0, 3), 10 * want);
            due.is("v", x.has(0, 4), 0);
            due.is("cost", x.has(0, 12), Math.abs(want));
            due.is("u", x.has(1, 3), 0);
            due.is("v", x.has(1, 4), 10 * want);
            due.is("cost", x.has(1, 12), Math.abs(want));
            due.is("u", x.has(2, 3), 10 * want);
            due.is("v", x.has(2, 4), -10 * want);
            due.is("cost", x.has(2, 5), 99 - 2 * Math.abs(want));
        }
        RockTugs y = four("burn 65536*32768,65536*32768-1");
        y.run(1);
        due.is("the least int", y.has(0, 3), -90);
        due.is("the greatest int", y.has(0, 4), 90);
    }

    private static void burnFree() {
        due.says("FREE: its SPEED gets 10 p, 10 q more.");
        RockTugs x = four("burn 3,-4 burn-1,0 burn 0,9");
        int[][] want = {{30, -40}, {20, -40}, {20, 50}};
        for (int[] speed : want) {
            x.run(1);
            due.is("u", x.has(0, 3), speed[0]);
            due.is("v", x.has(0, 4), speed[1]);
        }
        due.is("x", x.has(0, 1), 70);
        due.is("y", x.has(0, 2), -30);
        due.says("wait: nothing.");
        RockTugs waits = four("wait wait aim 7");
        waits.run(2);
        due.is("it takes the DAY", waits.has(0, 11), 0);
        due.is("nothing", waits.has(0, 1) + waits.has(0, 3) + waits.has(0, 12), 0);
        waits.run(1);
        due.is("then the next one", waits.has(0, 11), 7);
    }

    private static void burnCost() {
        due.says("It costs the sum of both (without signs) of FUEL; if there is less, nothing is done.");
        int[][] burns = {{0, 0}, {1, 0}, {0, -1}, {3, -4}, {-4, 3}, {9, 9}, {-9, -9}, {99, -99}};
        for (int[] pq : burns) {
            int p = Math.max(-9, Math.min(9, pq[0])), q = Math.max(-9, Math.min(9, pq[1]));
            int cost = Math.abs(p) + Math.abs(q);
            for (int fuel = Math.max(0, cost - 1); fuel <= cost + 1; fuel++) {
                RockTugs x = new RockTugs();
                x.tug(0, 0, 0, fuel);
                Due.order(x, 0, "burn " + value(pq[0]) + "," + value(pq[1]) + " aim 7");
                x.run(1);
                boolean done = fuel >= cost;
                due.is("FUEL " + fuel, x.has(0, 5), done ? fuel - cost : fuel);
                due.is("u", x.has(0, 3), done ? 10 * p : 0);
                due.is("v", x.has(0, 4), done ? 10 * q : 0);
                due.is("burnt", x.has(0, 12), done ? cost : 0);
                due.is("it takes the DAY", x.has(0, 11), 0);
                x.run(1);
                due.is("then the next one is next", x.has(0, 11), 7);
                dockedCost(pq, fuel, done ? p : 0, done ? q : 0);
            }
        }
    }

    private static void dockedCost(int[] pq, int fuel, int p, int q) {
        RockTugs x = new RockTugs();
        x.rock(0, 0, 0, 99999, 0);
        x.tug(0, 0, 0, fuel);
        x.moor(0, 0);
        Due.order(x, 0, "burn " + value(pq[0]) + "," + value(pq[1]));
        x.run(1);
        due.is("REST", x.told(0, 11), 1000 * p);
        due.is("REST", x.told(0, 12), 1000 * q);
        due.is("FUEL", x.has(0, 5), fuel - Math.abs(p) - Math.abs(q));
    }

    private static void burnDocked() {
        due.says("DOCKED: the ROCK's REST (0, 0 at first) gets 1000 p, 1000 q more; then its SPEED gets REST / TONS more, and REST TONS times that less.");
        int[][] want = {{1, 1000, 0}, {3, 333, 1}, {7, 142, 6}, {999, 1, 1}, {1000, 1, 0}, {1001, 0, 1000}, {99999, 0, 1000}};
        for (int[] row : want) {
            for (int sign : SIGNS) {
                RockTugs x = new RockTugs();
                x.rock(3, 0, 0, row[0], 0);
                x.tug(0, 0, 0, 99);
                x.moor(0, 0);
                due.is("REST at first", x.told(0, 11), 0);
                Due.order(x, 0, "burn " + value(sign) + "," + value(-sign));
                x.run(1);
                due.is("u of " + row[0], x.told(0, 3), sign * row[1]);
                due.is("v of " + row[0], x.told(0, 4), -sign * row[1]);
                due.is("REST of " + row[0], x.told(0, 11), sign * row[2]);
                due.is("REST of " + row[0], x.told(0, 12), -sign * row[2]);
                due.is("the TUG's u", x.has(0, 3), sign * row[1]);
                due.is("moved", x.told(0, 1), sign * row[1]);
            }
        }
    }

    /** What is left over stays with the ROCK, whoever pushes it, and changes its sign if it must. */
    private static void restOfARock() {
        due.says("then its SPEED gets REST / TONS more, and REST TONS times that less.");
        RockTugs x = four("burn 1,0 burn 0-2,0", "burn 1,0 wait");
        x.rock(3, 0, 0, 1500, 0);
        x.moor(0, 0);
        x.moor(1, 0);
        x.run(1);
        due.is("both together", x.told(0, 3), 1);
        due.is("REST", x.told(0, 11), 500);
        x.run(1);
        due.is("back", x.told(0, 3), 0);
        due.is("REST", x.told(0, 11), 0);
        RockTugs y = four("burn 1,0 burn-3,0 burn 1,0");
        y.rock(0, 0, 0, 1500, 0);
        y.moor(0, 0);
        y.run(1);
        due.is("REST", y.told(0, 11), 1000);
        y.run(1);
        due.is("-2000 / 1500", y.told(0, 3), -1);
        due.is("REST", y.told(0, 11), -500);
        y.run(1);
        due.is("500", y.told(0, 3), -1);
        due.is("REST", y.told(0, 11), 500);
    }

    /** Whether a TUG at rest at 0, 0 docks at a ROCK at once. */
    private static boolean docks(int kind, int px, int py, int u, int v, int spin) {
        RockTugs x = new RockTugs();
        x.tug(0, 0, 0, 0);
        Due.order(x, 0, "dock wait");
        x.rock(kind, px, py, 5, spin);
        x.speed(0, u, v);
        x.run(1);
        return x.has(0, 9) == 0;
    }

    private static void docks(String what, int px, int py, int u, int v, int spin, boolean want) {
        for (int kind = 0; kind < 4; kind++) due.is(what + " of kind " + kind, docks(kind, px, py, u, v, spin) ? 1 : 0, want ? 1 : 0);
    }

    private static void dockFar() {
        due.says("dock: if it is FREE, and AIMS at a ROCK at FAR 100 at most");
        int[][] near = {{0, 0}, {100, 0}, {100, 1}, {99, 3}, {67, 66}, {67, 67}, {66, 66}};
        int[][] beyond = {{101, 0}, {100, 2}, {99, 4}, {68, 66}, {68, 67}, {68, 68}, {Skies.EDGE, Skies.EDGE}};
        for (int sx : SIGNS) {
            for (int sy : SIGNS) {
                for (int[] d : near) {
                    docks("FAR", sx * d[0], sy * d[1], 0, 0, 0, true);
                    docks("FAR", sx * d[1], sy * d[0], 0, 0, 0, true);
                }
                for (int[] d : beyond) {
                    docks("FAR", sx * d[0], sy * d[1], 0, 0, 0, false);
                    docks("FAR", sx * d[1], sy * d[0], 0, 0, 0, false);
                }
            }
        }
    }

    private static void dockSpeed() {
        due.says("with a difference of u and of v of 50 at most each");
        for (int sx : SIGNS) {
            for (int sy : SIGNS) {
                docks("50, 50", 0, 0, 50 * sx, 50 * sy, 0, true);
                docks("51, 0", 0, 0, 51 * sx, 0, 0, false);
                docks("0, 51", 0, 0, 0, 51 * sy, 0, false);
                docks("51, 51", 0, 0, 51 * sx, 51 * sy, 0, false);
            }
        }
        docks("the greatest", 0, 0, Skies.EDGE, -Skies.EDGE, 0, false);
        // the difference counts, not the SPEED of the ROCK
        int[][] want = {{40, 1}, {140, 1}, {39, 0}, {141, 0}, {0, 0}, {-90, 0}};
        for (int[] row : want) {
            RockTugs x = four("burn 9,-9 dock");
            x.run(1);
            x.rock(0, 90, -90, 1, 0);
            x.speed(0, row[0], -row[0]);
            x.run(1);
            due.is("SPEED 90 to " + row[0], x.has(0, 9), row[1] == 1 ? 0 : NONE);
        }
    }

    private static void dockSpin() {
        due.says("and a SPIN of 20 at most (without sign)");
        for (int sign : SIGNS) {
            docks("SPIN 20", 0, 0, 0, 0, 20 * sign, true);
            docks("SPIN 21", 0, 0, 0, 0, 21 * sign, false);
            docks("SPIN 99", 0, 0, 0, 0, 99 * sign, false);
        }
    }

    private static void dockOthers() {
        due.says("at which no TUG is DOCKED (at a STATION there may be others)");
        for (int kind = 0; kind < 4; kind++) {
            RockTugs x = four("wait", "dock");
            x.rock(kind, 0, 0, 1, 0);
            x.moor(0, 0);
            x.run(1);
            due.is("beside another one at kind " + kind, x.has(1, 9), kind == 3 ? 0 : NONE);
        }
        RockTugs all = four("dock", "dock", "dock", "dock");
        all.rock(3, 0, 0, 1, 0);
        all.run(1);
        for (int i = 0; i < 4; i++) due.is("all at a STATION", all.has(i, 9), 0);
        due.says("and AIMS at a ROCK");
        for (int aim : new int[] {0, 1, 2, 3, 7, 8, 99999}) {
            RockTugs x = four("aim " + aim + " dock");
            for (int i = 0; i < 3; i++) x.rock(0, i, 0, 1, 0);
            x.run(1);
            due.is("AIMS at " + aim, x.has(0, 9), aim < 3 ? aim : NONE);
        }
        RockTugs late = four("aim 1 dock");
        late.rock(0, 0, 0, 1, 0);
        late.run(3);
        due.is("no such ROCK", late.has(0, 9), NONE);
        late.rock(0, 0, 0, 1, 0);
        late.run(1);
        due.is("there is one now", late.has(0, 9), 1);
    }

    private static void dockAllEdgesAtOnce() {
        due.says("(at a STATION there may be others): it is DOCKED there, and the next S is next");
        docks("all at their ends", -67, 67, 50, -50, -20, true);
        docks("one too FAR", -68, 67, 50, -50, -20, false);
        docks("one too fast", -67, 67, 51, -50, -20, false);
        docks("one too fast", -67, 67, 50, -51, -20, false);
        docks("one too much SPIN", -67, 67, 50, -50, -21, false);
        RockTugs x = four("dock aim 7");
        x.rock(0, 30, 40, 1, 0);
        x.speed(0, 5, 6);
        x.run(1);
        due.is("DOCKED", x.has(0, 9), 0);
        due.is("it takes the DAY", x.has(0, 11), 0);
        due.is("it goes with its ROCK", x.has(0, 1), 35);
        due.is("it goes with its ROCK", x.has(0, 2), 46);
        x.run(1);
        due.is("the next S is next", x.has(0, 11), 7);
    }

    private static void dockStays() {
        due.says("else it stays at this S (DOCKED: the next one is next).");
        RockTugs x = four("dock aim 7");
        x.rock(0, 101, 0, 1, 0);
        x.run(30);
        due.is("stays", x.has(0, 11), 0);
        due.is("stays", x.has(0, 10), 0);
        x.speed(0, -1, 0);
        x.run(1);
        due.is("not yet", x.has(0, 9), NONE);
        x.run(1);
        due.is("DOCKED", x.has(0, 9), 0);
        x.run(1);
        due.is("on", x.has(0, 11), 7);
        RockTugs y = four("aim 1 dock aim 7");
        y.rock(0, 0, 0, 1, 0);
        y.rock(0, 0, 0, 1, 0);
        y.moor(0, 0);
        y.run(1);
        due.is("DOCKED: it takes the DAY", y.has(0, 11), 1);
        due.is("where it was", y.has(0, 9), 0);
        y.run(1);
        due.is("DOCKED: the next one is next", y.has(0, 11), 7);
        due.is("where it was", y.has(0, 9), 0);
    }

    private static void free() {
        due.says("free: it is FREE, with the PLACE and SPEED as they were.");
        RockTugs x = four("free aim 7");
        x.rock(0, 100, -200, 1, 0);
        x.speed(0, 5, -6);
        x.moor(0, 0);
        x.run(1);
        due.is("FREE", x.has(0, 9), NONE);
        due.is("x", x.has(0, 1), 105);
        due.is("y", x.has(0, 2), -206);
        due.is("u", x.has(0, 3), 5);
        due.is("v", x.has(0, 4), -6);
        due.is("it takes the DAY", x.has(0, 11), 0);
        x.speed(0, 0, 0);
        x.run(1);
        due.is("by itself now", x.has(0, 1), 110);
        due.is("the next one is next", x.has(0, 11), 7);
        due.is("the ROCK has room", x.moor(0, 0), 1);
        RockTugs y = four("free aim 7");
        y.run(1);
        due.is("FREE already: it takes the DAY", y.has(0, 11), 0);
        due.is("where it was", y.has(0, 1), 0);
        y.run(1);
        due.is("the next one is next", y.has(0, 11), 7);
    }

    private static RockTugs digger(int kind, int of, String text) {
        RockTugs x = new RockTugs();
        x.rock(of, 0, 0, 5, 0);
        x.tug(kind, 0, 0, 0);
        x.moor(0, 0);
        Due.order(x, 0, text);
        return x;
    }

    private static void digStock() {
        due.says("as much of its STOCK as there is and the hold has room for, 5 at most (20 of a DIGGER) come to the hold.");
        for (int what = 0; what < 2; what++) {
            for (int kind = 0; kind < 4; kind++) {
                int most = kind < 2 ? 5 : 20;
                for (int stock : new int[] {0, 1, most - 1, most, most + 1, 9999}) {
                    RockTugs x = digger(kind, 1 + what, "dig aim 7");
                    x.stock(0, what, stock);
                    x.stock(0, 1 - what, 50);
                    x.run(1);
                    int much = Math.min(stock, most);
                    due.is("hold of kind " + kind + " from " + stock, x.has(0, 6 + what), much);
                    due.is("nothing else", x.has(0, 7 - what), 0);
                    due.is("STOCK", x.told(0, 7 + what), stock - much);
                    due.is("the other STOCK", x.told(0, 8 - what), 50);
                    due.is("it takes the DAY", x.has(0, 11), 0);
                }
            }
        }
    }

    private static void digRoom() {
        due.says("a hold for WATER and METAL (20 tons together, 100 of a HAULER; empty at first)");
        int[] room = {20, 100, 20, 20};
        for (int kind = 0; kind < 4; kind++) {
            // METAL up to 3 short of the room, then WATER
            RockTugs x = digger(kind, 2, "while m<" + (room[kind] - 3) + "{dig}free");
            x.rock(1, 0, 0, 5, 0);
            x.stock(0, 1, room[kind] - 3);
            x.stock(1, 0, 9);
            x.run(30);
            due.is("METAL of kind " + kind, x.has(0, 7), room[kind] - 3);
            x.moor(0, 1);
            Due.order(x, 0, "dig dig");
            x.run(1);
            due.is("room for 3", x.has(0, 6), 3);
            due.is("STOCK", x.told(1, 7), 6);
            x.run(1);
            due.is("no room", x.has(0, 6), 3);
            due.is("STOCK", x.told(1, 7), 6);
            RockTugs y = digger(kind, 1, "while w<" + room[kind] + "{dig}");
            y.stock(0, 0, 9999);
            y.run(30);
            due.is("all room is used", y.has(0, 6), room[kind]);
            due.is("STOCK", y.told(0, 7), 9999 - room[kind]);
        }
        RockTugs one = digger(2, 1, "dig dig dig");
        one.stock(0, 0, 19);
        one.run(1);
        one.stock(0, 0, 9);
        one.run(1);
        due.is("room for one", one.has(0, 6), 20);
        due.is("STOCK", one.told(0, 7), 8);
        one.run(1);
        due.is("no room", one.told(0, 7), 8);
    }

    private static void digKinds() {
        due.says("dig: DOCKED at an ICY ROCK: WATER, else at an ORE (not a STATION): METAL");
        for (int of = 0; of < 4; of++) {
            RockTugs x = digger(3, of, "dig");
            x.stock(0, 0, 7);
            x.stock(0, 1, 8);
            x.run(1);
            due.is("WATER at kind " + of, x.has(0, 6), of == 1 ? 7 : 0);
            due.is("METAL at kind " + of, x.has(0, 7), of == 2 ? 8 : 0);
        }
        RockTugs free = four("dig aim 7");
        free.rock(1, 0, 0, 1, 0);
        free.stock(0, 0, 7);
        free.run(1);
        due.is("FREE", free.has(0, 6), 0);
        due.is("it takes the DAY", free.has(0, 11), 0);
    }

    private static void make() {
        due.says("make: of a MINT: as much WATER of its hold as there is, 5 at most, becomes as much FUEL");
        for (int kind = 0; kind < 4; kind++) {
            for (int water = 0; water <= (kind < 2 ? 5 : 11); water++) {
                RockTugs x = digger(kind, 1, "dig make make aim 7");
                x.stock(0, 0, water);
                x.run(2);
                int first = kind == 3 ? Math.min(5, water) : 0;
                int second = kind == 3 ? Math.min(5, water - first) : 0;
                due.is("FUEL", x.has(0, 5), first);
                due.is("WATER", x.has(0, 6), water - first);
                due.is("made", x.has(0, 13), first);
                x.run(1);
                due.is("FUEL", x.has(0, 5), first + second);
                due.is("WATER", x.has(0, 6), water - first - second);
                due.is("made", x.has(0, 13), first + second);
                due.is("nothing burnt", x.has(0, 12), 0);
                due.is("it takes the DAY", x.has(0, 11), 0);
            }
        }
        RockTugs free = digger(3, 1, "dig free make");
        free.stock(0, 0, 4);
        free.run(3);
        due.is("FREE, too", free.has(0, 5), 4);
        RockTugs metal = digger(3, 2, "dig make");
        metal.stock(0, 1, 4);
        metal.run(2);
        due.is("not of METAL", metal.has(0, 5), 0);
    }

    private static void makeFuel() {
        due.says("becomes as much FUEL (as far as 999 goes).");
        for (int fuel = 993; fuel <= 999; fuel++) {
            RockTugs x = new RockTugs();
            x.rock(1, 0, 0, 5, 0);
            x.stock(0, 0, 20);
            x.tug(3, 0, 0, fuel);
            x.moor(0, 0);
            Due.order(x, 0, "dig make aim 7");
            x.run(2);
            int much = Math.min(5, 999 - fuel);
            due.is("FUEL from " + fuel, x.has(0, 5), fuel + much);
            due.is("WATER", x.has(0, 6), 20 - much);
            due.is("made", x.has(0, 13), much);
        }
    }

    private static void until() {
        due.says("until E: nothing, as long as E is 0 (asked anew each DAY; then it takes no DAY).");
        RockTugs x = four("until t>4 aim 7 wait aim 8");
        x.run(3);
        due.is("DAY 3 is gone", x.count(11), 4);
        due.is("not yet", x.has(0, 11), 0);
        x.run(1);
        due.is("DAY 4 is gone", x.has(0, 11), 0);
        x.run(1);
        due.is("on DAY 5 it takes no DAY", x.has(0, 11), 7);
        x.run(1);
        due.is("wait took that DAY", x.has(0, 11), 8);
        RockTugs y = four("until 0", "until 1 burn 1,0", "until -1 burn 1,0", "until f burn 1,0");
        y.run(1);
        due.is("for good", y.has(0, 10), 0);
        for (int i = 1; i < 4; i++) due.is("not at all", y.has(i, 12), 1);
    }

    private static void still() {
        due.says("still: DOCKED, with a FUEL of 1: 5 of the ROCK's SPIN (as much as there is, with its sign) come to the WHEEL");
        for (int sign : SIGNS) {
            for (int spin = 0; spin <= 11; spin++) {
                RockTugs x = new RockTugs();
                x.rock(3, 0, 0, 5, sign * spin);
                x.tug(0, 0, 0, 9);
                x.moor(0, 0);
                Due.order(x, 0, "still still aim 7");
                x.run(1);
                int first = Math.min(5, spin), second = Math.min(5, spin - first);
                due.is("WHEEL from " + spin, x.has(0, 8), sign * first);
                due.is("SPIN", x.told(0, 6), sign * (spin - first));
                due.is("costs 1 FUEL, if it was something", x.has(0, 5), first > 0 ? 8 : 9);
                due.is("it takes the DAY", x.has(0, 11), 0);
                x.run(1);
                due.is("WHEEL from " + spin, x.has(0, 8), sign * (first + second));
                due.is("SPIN", x.told(0, 6), sign * (spin - first - second));
                due.is("burnt", x.has(0, 12), (first > 0 ? 1 : 0) + (second > 0 ? 1 : 0));
            }
        }
        RockTugs free = four("still aim 7");
        free.rock(0, 0, 0, 1, 9);
        free.run(1);
        due.is("FREE: nothing", free.has(0, 8), 0);
        due.is("FREE: costs nothing", free.has(0, 5), 99);
        due.is("it takes the DAY", free.has(0, 11), 0);
    }

    /** A TUG whose WHEEL has so much, at a ROCK with such a SPIN, that takes more on the next DAY. */
    private static RockTugs wheel(int has, int spin, String text) {
        RockTugs x = new RockTugs();
        int first = has / 2, second = has - has / 2;
        x.rock(0, 0, 0, 5, first);
        x.rock(0, 0, 0, 5, second);
        x.rock(3, 0, 0, 5, spin);
        x.tug(0, 0, 0, 99);
        for (int i = 0; i < 2; i++) {
            x.moor(0, i);
            Due.order(x, 0, "still still still still still free");
            x.run(6);
        }
        due.is("WHEEL is made ready", x.has(0, 8), has);
        x.moor(0, 2);
        Due.order(x, 0, text);
        return x;
    }

    private static void stillWheel() {
        due.says("come to the WHEEL, as far as that stays -50 .. 50; costs 1 FUEL, if it was something.");
        for (int sign : SIGNS) {
            for (int has = 43; has <= 50; has++) {
                for (int spin : new int[] {99, 5, 3, 1, 0, -1, -5, -99}) {
                    RockTugs x = wheel(sign * has, sign * spin, "still");
                    int fuel = x.has(0, 5);
                    x.run(1);
                    int much = Math.min(Math.max(-5, Math.min(5, spin)), 50 - has);
                    due.is("WHEEL " + has + " at " + spin, x.has(0, 8), sign * (has + much));
                    due.is("SPIN", x.told(2, 6), sign * (spin - much));
                    due.is("FUEL", x.has(0, 5), much == 0 ? fuel : fuel - 1);
                }
            }
        }
    }

    private static void stillFuel() {
        due.says("still: DOCKED, with a FUEL of 1");
        for (int fuel = 0; fuel <= 3; fuel++) {
            RockTugs x = new RockTugs();
            x.rock(0, 0, 0, 5, 99);
            x.tug(0, 0, 0, fuel);
            x.moor(0, 0);
            Due.order(x, 0, "still still still still");
            x.run(4);
            due.is("WHEEL with " + fuel, x.has(0, 8), 5 * fuel);
            due.is("SPIN", x.told(0, 6), 99 - 5 * fuel);
            due.is("FUEL", x.has(0, 5), 0);
            due.is("burnt", x.has(0, 12), fuel);
        }
    }

    private static void shed() {
        due.says("shed: DOCKED at a STATION: the WHEEL's SPIN comes to that of the STATION, as far as that stays -99 .. 99.");
        for (int sign : SIGNS) {
            int[][] rows = {{20, 0, 20}, {20, 78, 20}, {20, 79, 20}, {20, 80, 19}, {20, 98, 1}, {20, 99, 0}, {20, -99, 20}, {50, 99, 0}, {50, 49, 50}, {50, 50, 49}, {0, 99, 0}, {1, 98, 1}, {1, 99, 0}};
            for (int[] row : rows) {
                RockTugs x = wheel(sign * row[0], sign * row[1], "shed aim 7");
                int fuel = x.has(0, 5);
                x.run(1);
                due.is("SPIN " + row[1] + " by " + row[0], x.told(2, 6), sign * (row[1] + row[2]));
                due.is("WHEEL", x.has(0, 8), sign * (row[0] - row[2]));
                due.is("costs nothing", x.has(0, 5), fuel);
                due.is("it takes the DAY", x.has(0, 11), 0);
            }
        }
        for (int kind = 0; kind < 4; kind++) {
            RockTugs x = new RockTugs();
            x.rock(kind, 0, 0, 5, 9);
            x.tug(0, 0, 0, 9);
            x.moor(0, 0);
            Due.order(x, 0, "still shed");
            x.run(2);
            due.is("WHEEL at kind " + kind, x.has(0, 8), kind == 3 ? 0 : 5);
            due.is("SPIN at kind " + kind, x.told(0, 6), kind == 3 ? 9 : 4);
        }
        RockTugs free = wheel(10, 0, "free shed");
        free.run(2);
        due.is("FREE: nothing", free.has(0, 8), 10);
    }

    /** A MINT with 4 WATER, 5 METAL and a WHEEL of 3 at a ROCK of a KIND, with SPIN and STOCKS, that has a text for the next DAY. */
    private static RockTugs laden(int kind, String text) {
        RockTugs x = new RockTugs();
        x.rock(1, 0, 0, 1, 3);
        x.rock(2, 0, 0, 1, 0);
        x.rock(kind, 0, 0, 1000, 9);
        x.stock(0, 0, 4);
        x.stock(1, 1, 5);
        x.stock(2, 0, 50);
        x.stock(2, 1, 60);
        x.tug(3, 0, 0, 501);
        x.moor(0, 0);
        Due.order(x, 0, "dig still free");
        x.run(3);
        x.moor(0, 1);
        Due.order(x, 0, "dig free");
        x.run(2);
        x.moor(0, 2);
        x.contract(0, 3, 2, 3000, 1);
        Due.order(x, 0, text);
        return x;
    }

    /** FUEL, WATER, METAL, WHEEL, where it is DOCKED, burnt, made; u, v, SPIN, WATER, METAL, REST of the ROCK; CLAIMS; tons of the CONTRACT. */
    private static int[] all(RockTugs x) {
        return new int[] {x.has(0, 5), x.has(0, 6), x.has(0, 7), x.has(0, 8), x.has(0, 9), x.has(0, 12), x.has(0, 13), x.told(2, 3), x.told(2, 4), x.told(2, 6), x.told(2, 7), x.told(2, 8), x.told(2, 11),
            x.told(2, 12), x.count(6), Math.max(0, x.about(0, 0))};
    }

    /** Which of all that is changed by how much, for each act at each KIND where it does something. */
    private static void eachDoesItsOwn() {
        due.says("What takes the DAY:");
        String[] acts = {"burn 1,-2", "free", "dig", "make", "give", "still", "shed", "claim", "wait", "dock", "until 0"};
        for (String act : acts) {
            for (int kind = 0; kind < 4; kind++) {
                RockTugs x = laden(kind, act);
                int[] want = all(x);
                due.is("FUEL at first", want[0], 500);
                switch (act) {
                    case "burn 1,-2": add(want, 0, -3, 5, 3, 7, 1, 8, -2); break;
                    case "free": add(want, 4, NONE - 2); break;
                    case "dig":
                        if (kind == 1) add(want, 1, 11, 10, -11);
                        if (kind == 2) add(want, 2, 11, 11, -11);
                        break;
                    case "make": add(want, 0, 4, 1, -4, 6, 4); break;
                    case "give":
                        if (kind == 3) add(want, 1, -4, 2, -5, 10, 1, 11, 5, 15, 3);
                        break;
                    case "still": add(want, 0, -1, 3, 5, 5, 1, 9, -5); break;
                    case "shed":
                        if (kind == 3) add(want, 3, -3, 9, 3);
                        break;
                    case "claim":
                        if (kind != 3) add(want, 14, 1);
                        break;
                    default:
                }
                x.run(1);
                int[] got = all(x);
                for (int i = 0; i < want.length; i++) due.is(act + " at kind " + kind + ": " + i, got[i], want[i]);
                due.is("AIMS stay", x.has(0, 11), 0);
            }
        }
    }

    /** Adds by pairs of a place and how much. */
    private static void add(int[] all, int... pairs) {
        for (int i = 0; i < pairs.length; i += 2) all[pairs[i]] += pairs[i + 1];
    }

    private static void cantBeDone() {
        due.says("(What can't be done takes the DAY all the same.)");
        String[] acts = {"burn 9,9", "free", "dig", "make", "give", "still", "shed", "claim", "wait"};
        for (String act : acts) {
            // FREE and without FUEL
            RockTugs x = new RockTugs();
            x.rock(0, 50, 50, 5, 9);
            x.tug(0, 0, 0, 0);
            Due.order(x, 0, act + " aim 7");
            x.run(1);
            due.is(act + " takes the DAY", x.has(0, 11), 0);
            due.is(act + " changes nothing", x.has(0, 1) + x.has(0, 3) + x.has(0, 5) + x.has(0, 6) + x.has(0, 7) + x.has(0, 8) + x.count(6), 0);
            x.run(1);
            due.is("then the next S is next behind " + act, x.has(0, 11), 7);
            // DOCKED at a plain ROCK, without FUEL
            if (act.equals("free") || act.equals("claim")) continue;
            RockTugs y = new RockTugs();
            y.rock(0, 0, 0, 5, 9);
            y.stock(0, 0, 9);
            y.stock(0, 1, 9);
            y.tug(1, 0, 0, 0);
            y.moor(0, 0);
            Due.order(y, 0, act + " aim 7");
            y.run(1);
            due.is(act + " takes the DAY", y.has(0, 11), 0);
            due.is(act + " changes nothing", y.has(0, 5) + y.has(0, 6) + y.has(0, 7) + y.has(0, 8) + y.count(6) + y.told(0, 3) + y.told(0, 11), 0);
            due.is(act + " changes nothing", y.told(0, 6) + y.told(0, 7) + y.told(0, 8), 27);
            y.run(1);
            due.is("then the next S is next behind " + act, y.has(0, 11), 7);
        }
    }
}
