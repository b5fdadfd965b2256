/** Part 1 of the Terms at its edges: places, speeds, FAR, suns, rocks; promises 1 to 10. */
public final class SkyEdgeTest {
    private static final Due due = new Due("SkyEdgeTest");
    private static final int NONE = RockTugs.NONE, EDGE = Skies.EDGE;
    private static final int[] SIGNS = {1, -1};

    public static void main(String[] args) {
        newObject();
        days();
        far();
        placesHeld();
        speedsHeldByPull();
        speedsHeldByBurning();
        sunsByNumber();
        sunAtFarNull();
        pullCut();
        pullOfTheEnds();
        pulledByPlaces();
        fourthSun();
        rockAtFirst();
        toldOfARock();
        kinds();
        stocks();
        laid();
        speedKeepsRest();
        due.end();
    }

    private static void newObject() {
        due.says("An empty SKY.");
        for (int what = 0; what < 12; what++) due.is("count " + what, new RockTugs().count(what), 0);
        RockTugs x = new RockTugs();
        x.sun(0, 0, 999);
        x.rock(0, 0, 1, 1, 0);
        x.keep();
        x.sheet(0, 1);
        x.tell(1);
        x.feed(0, 0, 0);
        RockTugs other = new RockTugs();
        for (int what = 0; what < 12; what++) due.is("another object has its own " + what, other.count(what), 0);
        due.is("and its own IMAGE", other.back(), RockTugs.NO);
        due.is("and its own SHEETS", other.mark(0, 0, 0), RockTugs.NOTHING);
    }

    private static void days() {
        due.says("DAYS count from 0.");
        RockTugs x = new RockTugs();
        due.is("TODAY", x.count(11), 0);
        due.is("run", x.run(1), 1);
        due.is("TODAY", x.count(11), 1);
    }

    private static int far(int x, int y, int px, int py) {
        RockTugs sky = new RockTugs();
        sky.rock(0, x, y, 1, 0);
        sky.tug(0, px, py, 0);
        int there = sky.miss(0, 10, 0, 0);
        due.is("the same from the other end", sky.miss(10, 0, 0, 0), there);
        return there;
    }

    private static void far() {
        due.says("FAR of two PLACES: the greater of both differences (without sign) and half of the lesser one.");
        int[][] want = {{0, 0, 0}, {1, 0, 1}, {1, 1, 1}, {2, 1, 2}, {2, 2, 3}, {3, 2, 4}, {3, 3, 4}, {4, 3, 5}, {5, 4, 7}, {100, 1, 100}, {100, 2, 101}};
        for (int[] row : want) {
            for (int sx : SIGNS) {
                for (int sy : SIGNS) {
                    due.is("FAR", far(0, 0, sx * row[0], sy * row[1]), row[2]);
                    due.is("FAR", far(0, 0, sx * row[1], sy * row[0]), row[2]);
                    due.is("FAR", far(7, -9, 7 + sx * row[0], -9 + sy * row[1]), row[2]);
                }
            }
        }
        for (int sx : SIGNS) {
            for (int sy : SIGNS) due.is("from end to end", far(sx * EDGE, sy * EDGE, -sx * EDGE, -sy * EDGE), 3 * EDGE);
        }
        due.is("along an edge", far(-EDGE, EDGE, EDGE, EDGE), 2 * EDGE);
    }

    private static void placesHeld() {
        due.says("each -9999999 .. 9999999 (what would be beyond is that end)");
        for (int sign : SIGNS) {
            // one short of the end by a SPEED of 0 .. 2, then by the greatest one
            for (int speed = 0; speed <= 2; speed++) {
                RockTugs x = new RockTugs();
                x.rock(0, sign * (EDGE - 1), 0, 1, 0);
                x.rock(0, 0, sign * (EDGE - 1), 1, 0);
                x.speed(0, sign * speed, 0);
                x.speed(1, 0, sign * speed);
                x.run(1);
                due.is("x by " + speed, x.told(0, 1), sign * (speed == 0 ? EDGE - 1 : EDGE));
                due.is("y by " + speed, x.told(1, 2), sign * (speed == 0 ? EDGE - 1 : EDGE));
                due.is("u stays", x.told(0, 3), sign * speed);
                due.is("v stays", x.told(1, 4), sign * speed);
            }
            RockTugs x = new RockTugs();
            x.rock(0, sign * EDGE, -sign * EDGE, 1, 0);
            x.speed(0, sign * EDGE, -sign * EDGE);
            x.tug(0, 0, 0, 0);
            x.moor(0, 0);
            x.run(30);
            due.is("x", x.told(0, 1), sign * EDGE);
            due.is("y", x.told(0, 2), -sign * EDGE);
            due.is("a DOCKED one, too", x.has(0, 1), sign * EDGE);
            x.speed(0, -sign, sign);
            x.run(1);
            due.is("and back", x.told(0, 1), sign * (EDGE - 1));
            due.is("and back", x.told(0, 2), -sign * (EDGE - 1));
            freeTugHeld(sign);
            foretoldHeld(sign);
        }
    }

    private static void freeTugHeld(int sign) {
        RockTugs x = new RockTugs();
        x.rule(0, 99999);
        x.tug(0, sign * (EDGE - 5), sign * (EDGE - 10), 99);
        Due.order(x, 0, sign > 0 ? "burn 1,1" : "burn-1,-1");
        x.run(1);
        due.is("x of a FREE TUG", x.has(0, 1), sign * EDGE);
        due.is("y of a FREE TUG", x.has(0, 2), sign * EDGE);
        due.is("u", x.has(0, 3), sign * 10);
        x.run(1);
        due.is("y of a FREE TUG", x.has(0, 2), sign * EDGE);
    }

    private static void foretoldHeld(int sign) {
        RockTugs x = new RockTugs();
        x.rock(0, sign * (EDGE - 7), 0, 1, 0);
        x.rock(0, sign * EDGE, 100, 1, 0);
        x.speed(0, sign * 5, 0);
        due.is("held in DRIFT, too", x.miss(0, 1, 9, 0), 100);
        due.is("first so near", x.miss(0, 1, 9, 1), 2);
    }

    private static void speedsHeldByPull() {
        due.says("each -9999999 .. 9999999 (what would be beyond is that end)");
        for (int sign : SIGNS) {
            // FAR 100: the pull is 10 * 1000 * 100 / 10000 = 100
            for (int missing : new int[] {101, 100, 99, 0}) {
                RockTugs x = new RockTugs();
                x.sun(sign * 100, 0, 10);
                x.rock(0, 0, 0, 1, 0);
                x.speed(0, sign * (EDGE - missing), 0);
                x.run(1);
                due.is("u short of its end by " + missing, x.told(0, 3), sign * (missing == 101 ? EDGE - 1 : EDGE));
                RockTugs y = new RockTugs();
                y.sun(0, sign * 100, 10);
                y.rock(0, 0, 0, 1, 0);
                y.speed(0, 0, sign * (EDGE - missing));
                y.run(1);
                due.is("v short of its end by " + missing, y.told(0, 4), sign * (missing == 101 ? EDGE - 1 : EDGE));
                due.is("y", y.told(0, 2), sign * (missing == 101 ? EDGE - 1 : EDGE));
            }
        }
    }

    private static String burn(int p, int q) {
        return "burn 0-" + -Math.min(0, p) + "+" + Math.max(0, p) + ",0-" + -Math.min(0, q) + "+" + Math.max(0, q);
    }

    /** A DOCKED TUG pushes its ROCK of 1000 tons to the end; a FREE one goes with the SPEED of its ROCK. */
    private static void speedsHeldByBurning() {
        due.says("each -9999999 .. 9999999 (what would be beyond is that end)");
        for (int sign : SIGNS) {
            for (int missing : new int[] {6, 5, 4, 0}) {
                RockTugs x = new RockTugs();
                x.rock(0, 0, 0, 1000, 0);
                x.tug(0, 0, 0, 99);
                x.moor(0, 0);
                Due.order(x, 0, burn(5 * sign, -5 * sign));
                x.speed(0, sign * (EDGE - missing), -sign * (EDGE - missing));
                x.run(1);
                int want = missing == 6 ? EDGE - 1 : EDGE;
                due.is("DOCKED: u", x.told(0, 3), sign * want);
                due.is("DOCKED: v", x.told(0, 4), -sign * want);
                due.is("REST", x.told(0, 11), 0);
            }
            for (int missing : new int[] {51, 50, 49, 0}) {
                RockTugs x = new RockTugs();
                x.rock(0, 0, 0, 1, 0);
                x.tug(0, 0, 0, 99);
                x.moor(0, 0);
                x.rule(0, 99999);
                Due.order(x, 0, "free " + burn(5 * sign, -5 * sign));
                x.speed(0, sign * (EDGE - missing), -sign * (EDGE - missing));
                x.run(2);
                int want = missing == 51 ? EDGE - 1 : EDGE;
                due.is("FREE: u", x.has(0, 3), sign * want);
                due.is("FREE: v", x.has(0, 4), -sign * want);
                due.is("the cost is the same", x.has(0, 5), 89);
            }
        }
    }

    private static void sunsByNumber() {
        due.says("In a DAY a body is pulled by each SUN, by number");
        // the SPEED is at its end: what is pulled first beyond it is lost, what is pulled back first is not
        for (int sign : SIGNS) {
            RockTugs x = new RockTugs();
            x.sun(sign * 100, 0, 10);
            x.sun(-sign * 100, 0, 10);
            x.rock(0, 0, 0, 1, 0);
            x.speed(0, EDGE, 0);
            x.run(1);
            due.is("u", x.told(0, 3), sign > 0 ? EDGE - 100 : EDGE);
            RockTugs y = new RockTugs();
            y.sun(0, sign * 100, 10);
            y.sun(0, -sign * 100, 10);
            y.rock(0, 0, 0, 1, 0);
            y.speed(0, 0, -EDGE);
            y.run(1);
            due.is("v", y.told(0, 4), sign > 0 ? -EDGE : -EDGE + 100);
        }
        RockTugs all = new RockTugs();
        for (int i = 0; i < 3; i++) all.sun(100, 0, 10);
        all.rock(0, 0, 0, 1, 0);
        all.run(1);
        due.is("by each of three", all.told(0, 3), 300);
    }

    private static void sunAtFarNull() {
        due.says("whose FAR from it, d, is not 0");
        RockTugs x = new RockTugs();
        x.sun(5, 5, 999);
        x.sun(105, 5, 10);
        x.rock(0, 5, 5, 1, 0);
        x.run(1);
        due.is("only the other one pulls", x.told(0, 3), 100);
        due.is("only the other one pulls", x.told(0, 4), 0);
        int[][] near = {{1, 0}, {-1, 0}, {0, 1}, {0, -1}};
        for (int[] d : near) {
            RockTugs y = new RockTugs();
            y.sun(d[0], d[1], 999);
            y.rock(0, 0, 0, 1, 0);
            y.run(1);
            due.is("FAR 1: u", y.told(0, 3), 999000 * d[0]);
            due.is("FAR 1: v", y.told(0, 4), 999000 * d[1]);
        }
        RockTugs z = new RockTugs();
        z.sun(1, 1, 999);
        z.rock(0, 0, 0, 1, 0);
        z.run(1);
        due.is("FAR 1 by both", z.told(0, 3), 999000);
    }

    private static void pullCut() {
        due.says("All numbers are whole; / cuts towards 0.");
        for (int sign : SIGNS) {
            // 1 * 1000 * 7 / 49 = 142.8..; 1 * 1000 * 1500 / 2250000 = 0.6..
            RockTugs x = new RockTugs();
            x.sun(sign * 7, 0, 1);
            x.rock(0, 0, 0, 1, 0);
            x.rock(0, -sign * 1493, 0, 1, 0);
            x.run(1);
            due.is("cut", x.told(0, 3), sign * 142);
            due.is("cut", x.told(1, 3), 0);
        }
        due.says("u gets PULL * 1000 * dx / (d * d) more, v likewise by dy (dx, dy: the SUN's PLACE less the body's).");
        for (int sx : SIGNS) {
            for (int sy : SIGNS) {
                RockTugs x = new RockTugs();
                x.sun(50 + sx * 7, -20 + sy * 3, 2);
                x.rock(0, 50, -20, 1, 0);
                x.tug(0, 50, -20, 0);
                x.run(1);
                // FAR 7 + 1: 2000 * 7 / 64 = 218, 2000 * 3 / 64 = 93, both cut
                due.is("u", x.told(0, 3), sx * 218);
                due.is("v", x.told(0, 4), sy * 93);
                due.is("u of a FREE TUG", x.has(0, 3), sx * 218);
                due.is("v of a FREE TUG", x.has(0, 4), sy * 93);
            }
        }
        due.says("a PLACE and a PULL 0 .. 999");
        for (int pull : new int[] {0, 1, 999}) {
            RockTugs x = new RockTugs();
            x.sun(10, 0, pull);
            x.rock(0, 0, 0, 1, 0);
            x.run(1);
            due.is("PULL " + pull, x.told(0, 3), 100 * pull);
        }
    }

    private static int pulled(int sunX, int sunY, int x, int y, int what) {
        RockTugs sky = new RockTugs();
        sky.sun(sunX, sunY, 999);
        sky.rock(0, x, y, 1, 0);
        sky.run(1);
        return sky.told(0, what);
    }

    private static void pullOfTheEnds() {
        due.says("u gets PULL * 1000 * dx / (d * d) more");
        for (int sign : SIGNS) {
            due.is("the last FAR that pulls", pulled(sign * 999000, 0, 0, 0, 3), sign);
            due.is("the first that does not", pulled(sign * 999001, 0, 0, 0, 3), 0);
            due.is("half of it", pulled(0, sign * 499500, 0, 0, 4), 2 * sign);
            due.is("half of it and one", pulled(0, sign * 499501, 0, 0, 4), sign);
            due.is("from end to end", pulled(sign * EDGE, EDGE, -sign * EDGE, -EDGE, 3), 0);
            due.is("from end to end", pulled(sign * EDGE, EDGE, -sign * EDGE, -EDGE, 4), 0);
            due.is("from end to end along x", pulled(sign * EDGE, 0, -sign * EDGE, 0, 3), 0);
        }
    }

    private static void pulledByPlaces() {
        due.says("All ROCKS and FREE TUGS are pulled, by their PLACES as they are; then each PLACE gets its SPEED more.");
        RockTugs x = new RockTugs();
        x.sun(100, 0, 10);
        x.rock(0, 0, 0, 1, 0);
        x.speed(0, 50, 0);
        x.run(1);
        due.is("pulled where it was", x.told(0, 3), 150);
        due.is("moved by the new SPEED", x.told(0, 1), 150);
        x.run(1);
        due.is("pulled back from beyond", x.told(0, 3), 150 - 200);
        due.is("moved back", x.told(0, 1), 100);
        x.run(1);
        due.is("at the SUN: not pulled", x.told(0, 3), -50);
    }

    private static void fourthSun() {
        due.says("One more SUN: its number. BAD; FULL.");
        RockTugs x = new RockTugs();
        for (int i = 0; i < 3; i++) x.sun(0, 100, 0);
        due.is("FULL", x.sun(100, 0, 999), RockTugs.FULL);
        x.rock(0, 0, 0, 1, 0);
        x.run(1);
        due.is("one that was refused does not pull", x.told(0, 3), 0);
    }

    private static void rockAtFirst() {
        due.says("One more ROCK, with SPEED 0 and empty STOCKS: its number.");
        int[][] made = {{0, EDGE, -EDGE, 1, -99}, {3, -EDGE, EDGE, 99999, 99}, {1, 0, 0, 7, 0}};
        RockTugs x = new RockTugs();
        for (int i = 0; i < made.length; i++) {
            int[] a = made[i];
            due.is("number", Skies.call(x, "rock", a), i);
            int[] want = {a[0], a[1], a[2], 0, 0, a[3], a[4], 0, 0, 0, NONE, 0, 0};
            for (int what = 0; what < want.length; what++) due.is("told " + what, x.told(i, what), want[what]);
            due.is("LEARNT", x.learnt(i, 0), 1);
            due.is("LEARNT", x.learnt(i, 1), 99999);
        }
    }

    private static void toldOfARock() {
        due.says("Of a ROCK: what 0 KIND, 1 x, 2 y, 3 u, 4 v, 5 TONS, 6 SPIN, 7 WATER, 8 METAL, 9 WORTH, 10 its OWNER (NONE), 11, 12 REST. BAD.");
        RockTugs x = new RockTugs();
        x.rock(0, 0, 0, 1, 0);
        x.rock(2, 101, -202, 3001, -9);
        x.tug(0, 0, 0, 0);
        x.tug(0, 0, 0, 99);
        x.moor(1, 1);
        Due.order(x, 1, "claim burn 1,-2 wait");
        due.is("no OWNER yet", x.told(1, 10), NONE);
        x.run(3);
        x.speed(1, 303, -404);
        x.stock(1, 0, 505);
        x.stock(1, 1, 606);
        x.stock(1, 2, 707);
        int[] want = {2, 101, -202, 303, -404, 3001, -9, 505, 606, 707, 1, 1000, -2000};
        for (int what = 0; what < want.length; what++) due.is("told " + what, x.told(1, what), want[what]);
        due.is("what -1", x.told(1, -1), RockTugs.BAD);
        due.is("what 13", x.told(1, 13), RockTugs.BAD);
        due.says("NONE: there is none.");
        due.is("no OWNER", x.told(0, 10), NONE);
    }

    private static void kinds() {
        due.says("3 STATION, under ORE (all are ROCKS)");
        int[][] of = {{1, 0, 0, 0}, {1, 1, 0, 0}, {1, 0, 1, 0}, {1, 0, 1, 1}};
        RockTugs x = new RockTugs();
        for (int kind = 0; kind < 4; kind++) {
            x.rock(kind, 0, 0, 1, 0);
            for (int asked = 0; asked < 4; asked++) due.is(kind + " isOf " + asked, x.isOf(kind, asked), of[kind][asked]);
        }
        due.says("3 MINT, under DIGGER (all are TUGS)");
        for (int kind = 0; kind < 4; kind++) {
            x.tug(kind, 0, 0, 0);
            for (int asked = 0; asked < 4; asked++) due.is(kind + " is " + asked, x.is(kind, asked), of[kind][asked]);
        }
    }

    private static void stocks() {
        due.says("STOCK of WATER (what 0), METAL (1), WORTH (2) of a ROCK becomes v: what it was. BAD.");
        int[] most = {9999, 9999, 999};
        RockTugs x = new RockTugs();
        for (int kind = 0; kind < 4; kind++) {
            x.rock(kind, 0, 0, 1, 0);
            for (int what = 0; what < 3; what++) {
                due.is("0 at first", x.stock(kind, what, most[what]), 0);
                due.is("the most", x.told(kind, 7 + what), most[what]);
                due.is("it was the most", x.stock(kind, what, 0), most[what]);
                due.is("none", x.told(kind, 7 + what), 0);
                x.stock(kind, what, 10 * kind + what);
            }
        }
        for (int kind = 0; kind < 4; kind++) {
            for (int what = 0; what < 3; what++) due.is("each by itself", x.told(kind, 7 + what), 10 * kind + what);
        }
    }

    private static void laid() {
        due.says("as many as there are of both (not 0 .. 999 counts as 0): how many.");
        int[] marks = {0, 1, 998, 999, 1000, -1, 32767, -32768};
        int[] worth = {0, 1, 998, 999, 0, 0, 0, 0};
        for (int rocks = 0; rocks <= 8; rocks += 4) {
            for (int places : new int[] {0, 1, 4, 7, 8, 40}) {
                RockTugs x = new RockTugs();
                for (int i = 0; i < rocks; i++) {
                    x.rock(0, 0, 0, 1, 0);
                    x.stock(i, 2, 77);
                }
                x.sheet(1, places);
                for (int i = 0; i < Math.min(8, places); i++) x.mark(1, i, marks[i]);
                int many = Math.min(rocks, places);
                due.is("lay", x.lay(1), many);
                for (int i = 0; i < rocks; i++) due.is("WORTH", x.told(i, 9), i < many ? worth[i] : 77);
                for (int i = 0; i < Math.min(8, places); i++) due.is("the SHEET stays", x.mark(1, i, 0), marks[i]);
            }
        }
    }

    private static void speedKeepsRest() {
        due.says("SPEED of a ROCK becomes u, v (REST stays): 0.");
        RockTugs x = new RockTugs();
        x.rock(0, 0, 0, 1001, 0);
        x.tug(0, 0, 0, 99);
        x.moor(0, 0);
        Due.order(x, 0, "burn 1,-1 burn 1,-1");
        x.run(1);
        due.is("REST", x.told(0, 11), 1000);
        due.is("speed", x.speed(0, 5, 5), 0);
        due.is("REST", x.told(0, 11), 1000);
        due.is("REST", x.told(0, 12), -1000);
        x.run(1);
        due.is("it counts on", x.told(0, 3), 6);
        due.is("it counts on", x.told(0, 4), 4);
        due.is("REST", x.told(0, 11), 999);
        due.is("REST", x.told(0, 12), -999);
    }
}
