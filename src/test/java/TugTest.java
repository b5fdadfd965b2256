/** Promises 11 to 15: tugs, and what they do in a DAY (Terms 3). */
public final class TugTest {
    private static final Due due = new Due("TugTest");
    private static final int BAD = RockTugs.BAD, FULL = RockTugs.FULL, NO = RockTugs.NO, NONE = RockTugs.NONE;
    private static final int EDGE = 9999999;

    public static void main(String[] args) {
        tugs();
        moored();
        dark();
        burnFree();
        burnDocked();
        dock();
        dockRefused();
        free();
        digging();
        holds();
        making();
        still();
        shed();
        claims();
        claimsThatMeet();
        claimsFull();
        due.end();
    }

    private static void tugs() {
        RockTugs x = new RockTugs();
        due.is("kind", x.tug(4, 0, 0, 0), BAD);
        due.is("kind", x.tug(-1, 0, 0, 0), BAD);
        due.is("x", x.tug(0, EDGE + 1, 0, 0), BAD);
        due.is("y", x.tug(0, 0, -EDGE - 1, 0), BAD);
        due.is("fuel", x.tug(0, 0, 0, -1), BAD);
        due.is("fuel", x.tug(0, 0, 0, 1000), BAD);
        due.is("tug", x.tug(2, EDGE, -EDGE, 999), 0);
        int[] want = {2, EDGE, -EDGE, 0, 0, 999, 0, 0, 0, NONE, NONE, 0, 0, 0};
        for (int what = 0; what < 14; what++) due.is("has " + what, x.has(0, what), want[what]);
        due.is("has", x.has(0, 14), BAD);
        due.is("has", x.has(0, -1), BAD);
        due.is("has", x.has(1, 0), BAD);
        due.is("has", x.has(-1, 0), BAD);
        for (int i = 1; i < 4; i++) due.is("tug", x.tug(i, 0, 0, 0), i);
        due.is("full", x.tug(0, 0, 0, 0), FULL);
        due.is("full, bad first", x.tug(4, 0, 0, 0), BAD);
        due.is("tugs", x.count(2), 4);
    }

    private static void moored() {
        RockTugs x = new RockTugs();
        x.rock(0, 5, 6, 1, 99);
        x.rock(3, -EDGE, 0, 1, 0);
        x.speed(0, 7, 8);
        for (int i = 0; i < 4; i++) x.tug(0, EDGE, 0, 0);
        due.is("tug", x.moor(4, 0), BAD);
        due.is("tug", x.moor(-1, 0), BAD);
        due.is("rock", x.moor(0, 2), BAD);
        due.is("rock", x.moor(0, -1), BAD);
        due.is("moor", x.moor(0, 0), 1);
        int[] want = {5, 6, 7, 8};
        for (int i = 0; i < 4; i++) due.is("as the ROCK", x.has(0, 1 + i), want[i]);
        due.is("DOCKED at", x.has(0, 9), 0);
        due.is("DOCKED here", x.moor(0, 0), NO);
        due.is("DOCKED elsewhere", x.moor(0, 1), NO);
        due.is("another one is there", x.moor(1, 0), NO);
        due.is("a STATION", x.moor(1, 1), 1);
        due.is("a STATION has room", x.moor(2, 1), 1);
        x.run(1);
        due.is("goes with its ROCK", x.has(0, 1), 12);
        due.is("goes with its ROCK", x.has(0, 2), 14);
    }

    private static void dark() {
        RockTugs x = new RockTugs();
        x.tug(0, 0, 0, 0);
        due.is("dark", x.dark(0, 1), 0);
        due.is("dark", x.dark(0, 1), 1);
        due.is("on", x.dark(0, 2), BAD);
        due.is("on", x.dark(0, -1), BAD);
        due.is("tug", x.dark(1, 0), BAD);
        x.run(2);
        due.is("a DARK TUG sends nothing", x.count(5), 0);
        due.is("light", x.dark(0, 0), 1);
        x.run(1);
        due.is("a REPORT", x.count(5), 1);
    }

    private static void burnFree() {
        RockTugs x = new RockTugs();
        x.tug(0, 0, 0, 50);
        Due.order(x, 0, "burn 3, -2 burn 10, 0-99999 burn 1, 0");
        x.run(1);
        due.is("u", x.has(0, 3), 30);
        due.is("v", x.has(0, 4), -20);
        due.is("x", x.has(0, 1), 30);
        due.is("FUEL", x.has(0, 5), 45);
        x.run(1);
        due.is("9 at most", x.has(0, 3), 120);
        due.is("-9 at least", x.has(0, 4), -110);
        due.is("FUEL", x.has(0, 5), 27);
        due.is("burnt", x.has(0, 12), 23);
        RockTugs poor = new RockTugs();
        poor.tug(0, 0, 0, 5);
        Due.order(poor, 0, "burn 3, 3 burn 3, 2");
        poor.run(1);
        due.is("less FUEL: nothing is done", poor.has(0, 3), 0);
        due.is("FUEL", poor.has(0, 5), 5);
        poor.run(1);
        due.is("as much as there is", poor.has(0, 5), 0);
        due.is("u", poor.has(0, 3), 30);
    }

    private static void burnDocked() {
        RockTugs x = new RockTugs();
        x.rock(0, 0, 0, 99999, 0);
        x.tug(0, 0, 0, 999);
        x.moor(0, 0);
        Due.order(x, 0, "while f>9{burn 9,-1}");
        x.run(11);
        due.is("REST u", x.told(0, 11), 99000);
        due.is("REST v", x.told(0, 12), -11000);
        due.is("not yet", x.told(0, 3), 0);
        x.run(1);
        due.is("u", x.told(0, 3), 1);
        due.is("v", x.told(0, 4), 0);
        due.is("REST u", x.told(0, 11), 8001);
        due.is("REST v", x.told(0, 12), -12000);
        due.is("the TUG's u", x.has(0, 3), 1);
        due.is("burnt", x.has(0, 12), 120);
        RockTugs end = new RockTugs();
        end.rock(0, 0, 0, 1, 0);
        end.speed(0, EDGE - 1, 0);
        end.tug(0, 0, 0, 9);
        end.moor(0, 0);
        Due.order(end, 0, "burn 1,0");
        end.run(1);
        due.is("SPEED is held", end.told(0, 3), EDGE);
        due.is("REST is used up all the same", end.told(0, 11), 0);
    }

    /** A TUG at 0, 0 at rest that wants to dock at a ROCK: at which it is DOCKED then. */
    private static int docked(int px, int py, int u, int v, int spin) {
        RockTugs x = new RockTugs();
        x.tug(0, 0, 0, 0);
        Due.order(x, 0, "dock wait");
        x.rock(0, px, py, 5, spin);
        x.speed(0, u, v);
        x.run(1);
        return x.has(0, 9);
    }

    private static void dock() {
        due.is("FAR 100", docked(100, 1, 0, 0, 0), 0);
        due.is("FAR 101", docked(100, 2, 0, 0, 0), NONE);
        due.is("FAR 101", docked(0, -101, 0, 0, 0), NONE);
        due.is("u 50", docked(0, 0, 50, -50, 20), 0);
        due.is("u 51", docked(0, 0, 51, 0, 0), NONE);
        due.is("u -51", docked(0, 0, -51, 0, 0), NONE);
        due.is("v -51", docked(0, 0, 0, -51, 0), NONE);
        due.is("SPIN 21", docked(0, 0, 0, 0, 21), NONE);
        due.is("SPIN -20", docked(0, 0, 0, 0, -20), 0);
        due.is("SPIN -21", docked(0, 0, 0, 0, -21), NONE);
        RockTugs x = new RockTugs();
        x.tug(0, 0, 0, 99);
        Due.order(x, 0, "burn 9,-9 dock");
        x.run(1);
        x.rock(0, 90, -90, 5, 0);
        x.speed(0, 39, -140);
        x.run(1);
        due.is("51 slower", x.has(0, 9), NONE);
        x.speed(0, 140, -40);
        x.run(1);
        due.is("both by 50", x.has(0, 9), 0);
    }

    private static void dockRefused() {
        RockTugs x = new RockTugs();
        x.rock(0, 50, 0, 5, 0);
        x.rock(3, 0, 50, 5, 0);
        for (int i = 0; i < 4; i++) x.tug(0, 0, 0, 9);
        Due.program(x, 0, "dock dock burn 1,0");
        Due.program(x, 1, "aim 1 dock");
        Due.program(x, 2, "aim 99999 dock wait");
        x.send(0, 0);
        x.send(1, 0);
        x.send(2, 1);
        x.send(3, 1);
        x.run(2);
        due.is("docked", x.has(0, 9), 0);
        due.is("at once with its PLACE", x.has(0, 1), 50);
        due.is("only one", x.has(1, 9), NONE);
        due.is("a STATION", x.has(2, 9), 1);
        due.is("a STATION has room", x.has(3, 9), 1);
        due.is("AIMS", x.has(3, 11), 1);
        x.run(1);
        due.is("DOCKED: takes the DAY", x.has(0, 5), 9);
        x.run(1);
        due.is("and the next one is next", x.has(0, 5), 8);
        due.is("it still waits", x.has(1, 10), 0);
        due.is("and burns nothing", x.has(1, 5), 9);
        x.run(9);
        due.is("it still waits", x.has(1, 5), 9);
        x.send(1, 2);
        x.run(5);
        due.is("no such ROCK", x.has(1, 9), NONE);
        due.is("AIMS there", x.has(1, 11), 99999);
        due.is("and stays at it", x.has(1, 10), 2);
    }

    private static void free() {
        RockTugs x = new RockTugs();
        x.rock(0, 40, 30, 5, 0);
        x.speed(0, 3, 4);
        x.tug(0, 0, 0, 9);
        x.moor(0, 0);
        Due.order(x, 0, "free free burn 1,1");
        x.run(1);
        due.is("FREE", x.has(0, 9), NONE);
        due.is("x", x.has(0, 1), 46);
        due.is("y", x.has(0, 2), 38);
        due.is("u", x.has(0, 3), 3);
        x.speed(0, 100, 100);
        x.run(1);
        due.is("a FREE one frees nothing", x.has(0, 1), 49);
        x.run(1);
        due.is("its own SPEED", x.has(0, 3), 13);
        due.is("ROCK's", x.told(0, 3), 100);
    }

    private static void digging() {
        for (int kind = 0; kind < 4; kind++) {
            for (int of = 0; of < 4; of++) {
                RockTugs x = new RockTugs();
                x.rock(of, 0, 0, 5, 0);
                x.stock(0, 0, 50);
                x.stock(0, 1, 60);
                x.tug(kind, 0, 0, 0);
                x.moor(0, 0);
                Due.order(x, 0, "dig");
                x.run(1);
                int much = kind >= 2 ? 20 : 5;
                int water = of == 1 ? much : 0;
                int metal = of == 2 ? much : 0;
                due.is("WATER of " + kind + " at " + of, x.has(0, 6), water);
                due.is("METAL of " + kind + " at " + of, x.has(0, 7), metal);
                due.is("WATER there", x.told(0, 7), 50 - water);
                due.is("METAL there", x.told(0, 8), 60 - metal);
            }
        }
        RockTugs x = new RockTugs();
        x.rock(1, 0, 0, 5, 0);
        x.stock(0, 0, 50);
        x.tug(2, 0, 0, 0);
        Due.order(x, 0, "dig");
        x.run(1);
        due.is("FREE: nothing", x.has(0, 6), 0);
    }

    private static void holds() {
        RockTugs x = new RockTugs();
        x.rock(1, 0, 0, 5, 0);
        x.rock(2, 0, 0, 5, 0);
        x.stock(0, 0, 13);
        x.stock(1, 1, 9999);
        x.tug(2, 0, 0, 0);
        x.tug(1, 0, 0, 0);
        Due.program(x, 0, "dock dig free aim 1 dock dig dig");
        x.send(0, 0);
        x.run(10);
        due.is("as much as there is", x.has(0, 6), 13);
        due.is("room for both together", x.has(0, 7), 7);
        due.is("nothing left", x.told(0, 7), 0);
        due.is("METAL left", x.told(1, 8), 9992);
        RockTugs y = new RockTugs();
        y.rock(2, 0, 0, 5, 0);
        y.stock(0, 1, 9999);
        y.tug(1, 0, 0, 0);
        y.moor(0, 0);
        Due.order(y, 0, "while m<98{dig}dig");
        y.run(30);
        due.is("a HAULER has room for 100", y.has(0, 7), 100);
    }

    private static void making() {
        RockTugs x = new RockTugs();
        x.rock(1, 0, 0, 5, 0);
        x.stock(0, 0, 7);
        x.tug(3, 0, 0, 100);
        x.moor(0, 0);
        Due.order(x, 0, "dig free make make make");
        x.run(3);
        due.is("5 at most", x.has(0, 5), 105);
        due.is("WATER", x.has(0, 6), 2);
        x.run(2);
        due.is("as much as there is", x.has(0, 5), 107);
        due.is("made", x.has(0, 13), 7);
        due.is("WATER", x.has(0, 6), 0);
        RockTugs y = new RockTugs();
        y.rock(1, 0, 0, 5, 0);
        y.stock(0, 0, 100);
        y.tug(3, 0, 0, 997);
        y.moor(0, 0);
        Due.order(y, 0, "dig make make");
        y.run(3);
        due.is("as far as 999 goes", y.has(0, 5), 999);
        due.is("WATER stays", y.has(0, 6), 18);
        due.is("made", y.has(0, 13), 2);
        RockTugs z = new RockTugs();
        z.rock(1, 0, 0, 5, 0);
        z.stock(0, 0, 100);
        z.tug(2, 0, 0, 5);
        z.moor(0, 0);
        Due.order(z, 0, "dig make");
        z.run(2);
        due.is("a DIGGER makes nothing", z.has(0, 5), 5);
    }

    private static void still() {
        RockTugs x = new RockTugs();
        x.rock(0, 0, 0, 5, -13);
        x.tug(0, 0, 0, 4);
        x.moor(0, 0);
        Due.order(x, 0, "while 1{still}");
        x.run(1);
        due.is("5 of it", x.told(0, 6), -8);
        due.is("WHEEL", x.has(0, 8), -5);
        x.run(5);
        due.is("all of it", x.told(0, 6), 0);
        due.is("WHEEL", x.has(0, 8), -13);
        due.is("nothing costs nothing", x.has(0, 5), 1);
        due.is("burnt", x.has(0, 12), 3);
        RockTugs y = new RockTugs();
        y.rock(0, 0, 0, 5, 99);
        y.tug(0, 0, 0, 99);
        y.moor(0, 0);
        Due.order(y, 0, "while s<48{still}");
        y.run(30);
        due.is("WHEEL up to 50", y.has(0, 8), 50);
        due.is("SPIN", y.told(0, 6), 49);
        due.is("FUEL", y.has(0, 5), 89);
        RockTugs z = new RockTugs();
        z.rock(0, 0, 0, 5, 9);
        z.tug(0, 0, 0, 0);
        z.moor(0, 0);
        Due.order(z, 0, "still");
        z.run(1);
        due.is("without FUEL nothing", z.told(0, 6), 9);
        RockTugs one = new RockTugs();
        one.rock(0, 0, 0, 5, 9);
        one.tug(0, 0, 0, 1);
        one.moor(0, 0);
        Due.order(one, 0, "still still");
        one.run(2);
        due.is("with a FUEL of 1 once", one.told(0, 6), 4);
        due.is("FUEL", one.has(0, 5), 0);
        wheelFull(1);
        wheelFull(-1);
    }

    /** The WHEEL has 48 or -48 when 5 more would be too many. */
    private static void wheelFull(int sign) {
        RockTugs x = new RockTugs();
        x.rock(0, 0, 0, 5, 3 * sign);
        x.rock(0, 0, 0, 5, 99 * sign);
        x.tug(0, 0, 0, 99);
        x.moor(0, 0);
        Due.order(x, 0, "still free");
        x.run(2);
        x.moor(0, 1);
        Due.order(x, 0, "while 1{still}");
        x.run(9);
        due.is("WHEEL", x.has(0, 8), 48 * sign);
        x.run(1);
        due.is("as far as it goes", x.has(0, 8), 50 * sign);
        due.is("SPIN", x.told(1, 6), 52 * sign);
        due.is("FUEL", x.has(0, 5), 88);
        x.run(3);
        due.is("then nothing", x.has(0, 5), 88);
        due.is("SPIN", x.told(1, 6), 52 * sign);
    }

    private static void shed() {
        RockTugs x = new RockTugs();
        x.rock(0, 0, 0, 5, 19);
        x.rock(3, 0, 0, 5, -95);
        x.tug(0, 0, 0, 99);
        x.moor(0, 0);
        Due.order(x, 0, "still still shed free aim 1");
        x.run(3);
        due.is("no STATION", x.has(0, 8), 10);
        x.run(2);
        x.moor(0, 1);
        Due.order(x, 0, "shed");
        x.run(1);
        due.is("WHEEL", x.has(0, 8), 0);
        due.is("SPIN", x.told(1, 6), -85);
        due.is("for nothing", x.has(0, 5), 97);
        RockTugs y = new RockTugs();
        y.rock(0, 0, 0, 5, 20);
        y.rock(3, 0, 0, 5, 20);
        y.tug(0, 0, 0, 99);
        y.moor(0, 0);
        Due.order(y, 0, "while s<20{still} free aim 1 dock while 1{shed}");
        y.run(30);
        due.is("all of it", y.told(1, 6), 40);
        RockTugs z = new RockTugs();
        z.rock(0, 0, 0, 5, -40);
        z.rock(3, 0, 0, 5, -90);
        z.tug(0, 0, 0, 99);
        z.moor(0, 0);
        Due.order(z, 0, "while s>0-40{still} free");
        z.run(30);
        z.moor(0, 1);
        Due.order(z, 0, "shed");
        z.run(1);
        due.is("as far as -99", z.told(1, 6), -99);
        due.is("WHEEL keeps the rest", z.has(0, 8), -31);
    }

    private static void claims() {
        RockTugs x = new RockTugs();
        x.rock(0, 3000, 0, 5, 0);
        x.rock(3, 0, 0, 5, 0);
        x.tug(0, 0, 0, 99);
        x.tug(0, 0, 0, 99);
        x.moor(1, 1);
        Due.program(x, 0, "claim");
        x.send(0, 0);
        x.send(1, 0);
        x.run(2);
        due.is("a FREE TUG and one at a STATION claim nothing", x.count(6), 0);
        x.moor(0, 0);
        due.is("order", x.send(0, 0), 6);
        x.run(5);
        due.is("on its way", x.count(6), 1);
        due.is("no OWNER yet", x.told(0, 10), NONE);
        // sent on DAY 6, comes on DAY 6 + 1 + 3
        x.run(3);
        due.is("still on its way", x.told(0, 10), NONE);
        x.run(1);
        due.is("OWNER", x.told(0, 10), 0);
        due.is("none on its way", x.count(6), 0);
        due.is("of no STATION", x.told(1, 10), NONE);
    }

    /** The later CLAIM comes on the same DAY, or ahead, if LIGHT is faster. */
    private static void claimsThatMeet() {
        for (int light = 1000; light <= 2000; light += 500) {
            RockTugs x = new RockTugs();
            x.rock(0, 3000, 0, 5, 0);
            x.tug(0, 0, 0, 99);
            x.tug(0, 0, 0, 99);
            Due.program(x, 0, "claim free");
            x.moor(1, 0);
            due.is("order", x.send(1, 0), 4);
            x.run(6);
            x.moor(0, 0);
            x.rule(0, 99999);
            x.send(0, 0);
            x.rule(0, light);
            // the first was sent on DAY 4 and comes on DAY 8; the second is sent on DAY 7
            x.run(1);
            due.is("one is on its way", x.count(6), 1);
            x.rule(0, light == 1000 ? 1000 : 99999);
            x.run(2);
            due.is("OWNER", x.told(0, 10), 1);
        }
        RockTugs y = new RockTugs();
        y.rock(0, 3000, 0, 5, 0);
        y.tug(0, 0, 0, 99);
        y.tug(0, 0, 0, 99);
        Due.program(y, 0, "claim free");
        y.moor(1, 0);
        y.send(1, 0);
        y.rule(0, 100);
        y.run(6);
        y.moor(0, 0);
        y.rule(0, 99999);
        y.send(0, 0);
        y.run(3);
        due.is("overtaken", y.told(0, 10), 0);
        y.run(30);
        due.is("it stays", y.told(0, 10), 0);
    }

    private static void claimsFull() {
        RockTugs x = new RockTugs();
        x.rock(0, 3000, 0, 5, 0);
        x.tug(0, 0, 0, 99);
        x.moor(0, 0);
        Due.order(x, 0, "while 1{claim}");
        x.rule(0, 1);
        x.run(19);
        due.is("19", x.count(6), 19);
        x.run(10);
        due.is("20 at most", x.count(6), 20);
    }
}
