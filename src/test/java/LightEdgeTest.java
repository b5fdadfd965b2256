/** Part 3 (a), (c), (d) of the Terms at its edges: what goes with LIGHT, when it is due, how much may be on its way; promises 14, 19 to 22. */
public final class LightEdgeTest {
    private static final Due due = new Due("LightEdgeTest");
    private static final int NONE = RockTugs.NONE, NO = RockTugs.NO, FULL = RockTugs.FULL, EDGE = Skies.EDGE;

    public static void main(String[] args) {
        whenItComes();
        ordersOnTheirDay();
        ordersInTheirOrder();
        ordersAsTheyAreNow();
        ordersToWhereItIs();
        ordersFull();
        reportsOnTheirDay();
        reportsOfADay();
        reportsOfEach();
        reportsFull();
        reportsOvertaken();
        darkTugs();
        claimsOnTheirDay();
        claimsOfOneDay();
        claimsOfOthers();
        claimsFull();
        whatIsOnItsWay();
        lightAtItsEnds();
        orderOfADay();
        dockedOnesGoAlong();
        due.end();
    }

    /** A TUG at a PLACE, with PROGRAM 0. */
    private static RockTugs at(int px, int py, int light, String text) {
        RockTugs x = new RockTugs();
        x.tug(0, px, py, 99);
        x.rule(0, light);
        Due.program(x, 0, text);
        return x;
    }

    private static void whenItComes() {
        due.says("what is sent on DAY t from a PLACE to another one comes on DAY t + 1 + FAR / LIGHT.");
        int[][] rows = {{0, 0, 1000, 1}, {999, 0, 1000, 1}, {1000, 0, 1000, 2}, {1999, 0, 1000, 2}, {2000, 0, 1000, 3}, {0, -999, 1000, 1}, {0, -1000, 1000, 2}, {-999, 1, 1000, 1}, {-999, 2, 1000, 2},
            {666, 666, 1000, 1}, {667, 667, 1000, 2}, {0, 0, 1, 1}, {1, 0, 1, 2}, {7, 3, 1, 9}, {99998, 0, 99999, 1}, {99999, 0, 99999, 2}, {EDGE, -EDGE, 99999, 1 + 150}, {EDGE, EDGE, 1, 1 + EDGE + EDGE / 2}};
        for (int[] row : rows) {
            for (int today = 0; today <= 5; today += 5) {
                RockTugs x = at(row[0], row[1], row[2], "wait");
                if (today > 0) x.run(today);
                due.is("from " + row[0] + ", " + row[1] + " by " + row[2], x.send(0, 0), today + row[3]);
            }
        }
    }

    private static void ordersOnTheirDay() {
        due.says("ORDERS that are due come");
        for (int far : new int[] {0, 999, 1000, 2500}) {
            RockTugs x = at(far, 0, 1000, "burn 1,0 wait");
            int comes = x.send(0, 0);
            due.is("sent", x.count(4), 1);
            x.run(comes);
            due.is("not ahead of its DAY", x.has(0, 10), NONE);
            due.is("still on its way", x.count(4), 1);
            x.run(1);
            due.is("on its DAY", x.has(0, 10), 0);
            due.is("its first S on that DAY", x.has(0, 12), 1);
            due.is("no more on its way", x.count(4), 0);
        }
    }

    private static void ordersInTheirOrder() {
        due.says("in the order in which they were sent: their TUG begins their PROGRAM at its first S");
        RockTugs x = at(2000, 0, 1000, "burn 1,0 burn 1,0");
        Due.program(x, 1, "burn 0,2 burn 0,3");
        due.is("sent first", x.send(0, 0), 3);
        x.run(2);
        x.rule(0, 99999);
        due.is("sent later, due on the same DAY", x.send(0, 1), 3);
        x.run(2);
        due.is("the later one begins last", x.has(0, 10), 1);
        due.is("its first S", x.has(0, 12), 2);
        // the other way about: the later number is sent first
        RockTugs y = at(2000, 0, 1000, "burn 1,0 burn 1,0");
        Due.program(y, 1, "burn 0,2 burn 0,3");
        due.is("sent first", y.send(0, 1), 3);
        y.run(2);
        y.rule(0, 99999);
        due.is("sent later", y.send(0, 0), 3);
        y.run(2);
        due.is("the later one begins last", y.has(0, 10), 0);
        due.is("its first S", y.has(0, 12), 1);
        // one that was sent later but comes ahead
        RockTugs z = at(5000, 0, 1000, "burn 1,0 burn 1,0");
        Due.program(z, 1, "burn 0,2 burn 0,3");
        due.is("sent first", z.send(0, 0), 6);
        z.rule(0, 99999);
        due.is("comes ahead", z.send(0, 1), 1);
        z.run(3);
        due.is("both S of it", z.has(0, 12), 5);
        z.run(4);
        due.is("then that which was sent first", z.has(0, 12), 6);
        RockTugs again = at(0, 0, 1000, "aim 5 burn 1,0 burn 2,0 burn 3,0");
        again.send(0, 0);
        again.run(2);
        again.send(0, 0);
        again.run(1);
        due.is("its second S", again.has(0, 12), 3);
        again.run(1);
        due.is("from its first S again", again.has(0, 12), 4);
    }

    private static void ordersAsTheyAreNow() {
        due.says("(as it is now; none, if it is empty)");
        RockTugs x = at(0, 0, 1000, "burn 1,0");
        x.send(0, 0);
        Due.program(x, 0, "burn 2,0");
        x.run(2);
        due.is("as it is now", x.has(0, 12), 2);
        RockTugs y = at(0, 0, 1000, "burn 1,0");
        Due.program(y, 1, "wait wait wait wait wait wait");
        y.send(0, 1);
        y.run(2);
        due.is("it runs another one", y.has(0, 10), 1);
        y.send(0, 0);
        Due.program(y, 0, "?");
        y.run(1);
        due.is("not yet", y.has(0, 10), 1);
        y.run(1);
        due.is("none", y.has(0, 10), NONE);
        due.is("nothing is on its way", y.count(4), 0);
        // emptied on its way and written again
        RockTugs z = at(3000, 0, 1000, "burn 1,0");
        z.send(0, 0);
        Due.program(z, 0, "");
        due.is("empty", z.send(0, 0), NO);
        z.run(2);
        Due.program(z, 0, "burn 3,0");
        z.run(3);
        due.is("written again", z.has(0, 12), 3);
    }

    private static void ordersToWhereItIs() {
        due.says("ORDERS go from THE BASE (PLACE 0, 0) to where the TUG is as it is sent");
        RockTugs x = new RockTugs();
        x.rock(0, 5000, 0, 1, 0);
        x.tug(0, 0, 0, 9);
        x.moor(0, 0);
        Due.program(x, 0, "wait");
        x.speed(0, -1000, 0);
        due.is("where its ROCK is", x.send(0, 0), 6);
        x.run(5);
        due.is("it came nearer, the ORDER stays as it was", x.count(4), 1);
        x.run(2);
        due.is("on its DAY", x.has(0, 10), 0);
        due.is("from the other side", x.send(0, 0), 7 + 1 + 2);
    }

    private static void ordersFull() {
        due.says("(30 ORDERS, 60 REPORTS, 20 CLAIMS at most on their way: more are not sent.)");
        RockTugs x = at(3000, 0, 1000, "aim 1 wait");
        Due.program(x, 1, "aim 2 wait");
        for (int i = 0; i < 30; i++) due.is("send", x.send(0, 0), 4);
        due.is("a 31st", x.send(0, 1), FULL);
        due.is("30", x.count(4), 30);
        x.run(4);
        due.is("DAY 3 is gone", x.send(0, 1), FULL);
        x.run(1);
        due.is("all came", x.count(4), 0);
        due.is("the one that was not sent did not come", x.has(0, 11), 1);
        due.is("room again", x.send(0, 1), 9);
    }

    private static void reportsOnTheirDay() {
        due.says("REPORTS that are due come.");
        for (int far : new int[] {0, 999, 1000, 2500}) {
            RockTugs x = at(far, 0, 1000, "wait");
            int first = 1 + far / 1000;
            x.run(first);
            due.is("not ahead of its DAY", x.known(0, 5), NONE);
            due.is("on their way", x.count(5), first);
            x.run(1);
            due.is("on its DAY", x.known(0, 5), 0);
            due.is("on their way", x.count(5), first);
            x.run(1);
            due.is("the next one", x.known(0, 5), 1);
        }
    }

    private static void reportsOfADay() {
        due.says("Each TUG that is not DARK sends a REPORT: PLACE, SPEED, FUEL, and the DAY (the one that ends).");
        RockTugs x = at(990, 0, 1000, "burn 1,-2");
        x.send(0, 0);
        x.run(2);
        // on DAY 1 it comes to 1000, -20 and sends from there: due on DAY 3
        due.is("of DAY 0", x.known(0, 5), 0);
        due.is("x", x.known(0, 0), 990);
        x.run(1);
        due.is("of DAY 1 not yet", x.known(0, 5), 0);
        x.run(1);
        int[] want = {1000, -20, 10, -20, 96, 1};
        for (int what = 0; what < 6; what++) due.is("known " + what, x.known(0, what), want[what]);
        due.says("REPORTS, CLAIMS from where the TUG is to PLACE 0, 0.");
        RockTugs y = new RockTugs();
        y.rock(0, 999, 0, 1, 0);
        y.speed(0, 1, 0);
        y.tug(0, 0, 0, 0);
        y.moor(0, 0);
        y.run(2);
        due.is("it was sent from 1000 where its ROCK came", y.known(0, 5), NONE);
        y.run(1);
        due.is("a DAY later", y.known(0, 0), 1000);
    }

    /** Each TUG sends its own, in one DAY and on the way together. */
    private static void reportsOfEach() {
        due.says("Each TUG that is not DARK sends a REPORT");
        RockTugs x = new RockTugs();
        for (int i = 0; i < 4; i++) x.tug(i, 1000 * i, -10 * i, 50 + i);
        x.dark(2, 1);
        x.run(1);
        due.is("three", x.count(5), 3);
        x.run(5);
        for (int i = 0; i < 4; i++) {
            due.is("x of " + i, x.known(i, 0), i == 2 ? NONE : 1000 * i);
            due.is("y of " + i, x.known(i, 1), i == 2 ? NONE : -10 * i);
            due.is("FUEL of " + i, x.known(i, 4), i == 2 ? NONE : 50 + i);
            due.is("DAY of " + i, x.known(i, 5), i == 2 ? NONE : 4 - i);
        }
        x.dark(2, 0);
        x.dark(0, 1);
        x.run(7);
        int[] days = {5, 10, 9, 8};
        for (int i = 0; i < 4; i++) due.is("DAY of " + i, x.known(i, 5), days[i]);
    }

    private static void reportsFull() {
        due.says("60 REPORTS, 20 CLAIMS at most on their way: more are not sent");
        RockTugs x = new RockTugs();
        x.rule(0, 100);
        for (int i = 0; i < 3; i++) x.tug(0, 6000, i, 9);
        x.run(20);
        due.is("60", x.count(5), 60);
        x.run(1);
        due.is("60 at most", x.count(5), 60);
        x.tug(0, 0, 0, 0);
        x.run(39);
        due.is("60 at most", x.count(5), 60);
        RockTugs y = new RockTugs();
        y.rule(0, 1);
        y.tug(0, 30, 0, 9);
        y.run(30);
        due.is("30", y.count(5), 30);
        // the REPORT of DAY 0 is due on DAY 31; from then on one comes and one goes
        y.run(10);
        due.is("31", y.count(5), 31);
        due.is("KNOWN", y.known(0, 5), 8);
        // 59 are on their way, two TUGS send: the first by number is the last one
        RockTugs z = new RockTugs();
        z.rule(0, 1);
        z.tug(0, 500, 0, 9);
        z.run(30);
        z.run(29);
        due.is("59", z.count(5), 59);
        z.rule(0, 1000);
        z.tug(0, 500, 0, 9);
        z.run(1);
        due.is("60", z.count(5), 60);
        z.run(1);
        due.is("the first by number sent it", z.known(0, 5), 59);
        due.is("the other one did not", z.known(1, 5), NONE);
        due.is("what came made room again for one", z.count(5), 60);
    }

    private static void reportsOvertaken() {
        due.says("KNOWN of a TUG is the REPORT that came with the latest DAY in it.");
        RockTugs x = at(3000, 0, 1000, "wait");
        x.run(1);
        x.rule(0, 99999);
        x.run(2);
        due.is("a later one came ahead", x.known(0, 5), 1);
        x.dark(0, 1);
        x.run(3);
        due.is("none is on its way", x.count(5), 0);
        due.is("the older one changes nothing", x.known(0, 5), 2);
        // of two that come on one DAY
        RockTugs y = at(3000, 0, 1000, "wait");
        y.run(3);
        y.rule(0, 99999);
        y.run(1);
        y.dark(0, 1);
        y.run(1);
        due.is("both came", y.count(5), 2);
        due.is("the latest DAY", y.known(0, 5), 3);
    }

    private static void darkTugs() {
        due.says("A TUG is DARK (on 1) or not (0): what it was.");
        RockTugs x = at(0, 0, 1000, "burn 1,0 burn 1,0 burn 1,0");
        due.is("on", x.dark(0, 1), 0);
        due.is("on again", x.dark(0, 1), 1);
        x.run(3);
        due.is("it sends nothing", x.count(5), 0);
        due.is("nothing is KNOWN", x.known(0, 5), NONE);
        x.send(0, 0);
        x.run(2);
        due.is("an ORDER reaches it", x.has(0, 12), 1);
        due.is("off", x.dark(0, 0), 1);
        due.is("off again", x.dark(0, 0), 0);
        x.run(1);
        due.is("it sends again", x.count(5), 1);
        x.dark(0, 1);
        x.run(1);
        due.is("what was on its way comes", x.known(0, 5), 5);
        due.is("no more", x.count(5), 0);
        due.is("what was KNOWN stays", x.run(1) > 0 ? x.known(0, 5) : 0, 5);
    }

    /** A TUG at a ROCK claims on DAY 1. */
    private static RockTugs claimed(int kind, int far, int light) {
        RockTugs x = new RockTugs();
        x.rock(kind, 0, 0, 1, 0);
        x.tug(0, 0, 0, 0);
        x.moor(0, 0);
        Due.order(x, 0, "claim aim 7");
        x.rock(kind, far, 0, 1, 0);
        x.tug(0, 0, 0, 0);
        x.moor(1, 1);
        x.rule(0, 99999);
        x.send(1, 0);
        x.rule(0, light);
        return x;
    }

    private static void claimsOnTheirDay() {
        due.says("claim: DOCKED at what is no STATION: a CLAIM is sent to THE COURT (at PLACE 0, 0).");
        for (int kind = 0; kind < 4; kind++) {
            for (int far : new int[] {0, 999, 1000, 2500}) {
                RockTugs x = claimed(kind, far, 1000);
                x.run(1);
                due.is("TUG 0 on DAY 1", x.count(6), kind == 3 ? 0 : 1);
                due.is("it takes the DAY", x.has(0, 11), 0);
                x.run(1);
                due.is("TUG 0's came, TUG 1's is sent", x.count(6), kind == 3 ? 0 : 1);
                due.is("OWNER", x.told(0, 10), kind == 3 ? NONE : 0);
                // sent on DAY 2
                int comes = 3 + far / 1000;
                while (x.count(11) < comes) x.run(1);
                due.is("not yet", x.told(1, 10), NONE);
                x.run(1);
                due.is("on its DAY", x.told(1, 10), kind == 3 ? NONE : 1);
                due.is("none on its way", x.count(6), 0);
            }
        }
        RockTugs free = at(0, 0, 1000, "claim aim 7");
        free.rock(0, 0, 0, 1, 0);
        free.send(0, 0);
        free.run(2);
        due.is("FREE: none", free.count(6), 0);
    }

    private static void claimsOfOneDay() {
        due.says("CLAIMS that are due come: a ROCK without an OWNER has the TUG for OWNER whose CLAIM came; of several that come in one DAY the one that was sent first.");
        // TUG 1 claims on DAY 1 from 2000 (due on 4); TUG 0 claims on a later DAY with faster LIGHT
        for (int second = 3; second <= 4; second++) {
            RockTugs x = new RockTugs();
            x.rock(1, 2000, 0, 1, 0);
            x.tug(0, 0, 0, 0);
            x.tug(0, 0, 0, 0);
            Due.program(x, 0, "claim free");
            Due.program(x, 1, "until t>" + (second - 1) + " claim free");
            x.send(0, 1);
            x.send(1, 0);
            x.run(1);
            x.moor(1, 0);
            x.run(1);
            due.is("TUG 1 sent its CLAIM", x.count(6), 1);
            for (int day = 2; day < second; day++) x.run(1);
            x.moor(0, 0);
            x.rule(0, 99999);
            x.run(1);
            due.is("TUG 0 claims, too", x.has(0, 10), 1);
            // TUG 0's of DAY 3 comes on DAY 4, together with TUG 1's; that of DAY 4 comes on DAY 5
            x.run(2);
            due.is("the one that was sent first", x.told(0, 10), 1);
            due.is("none on their way", x.count(6), 0);
        }
        RockTugs both = new RockTugs();
        both.rock(0, 2000, 0, 1, 0);
        both.tug(0, 0, 0, 0);
        both.tug(0, 0, 0, 0);
        Due.program(both, 0, "claim free");
        both.moor(0, 0);
        both.send(0, 0);
        both.run(5);
        due.is("TUG 0 sent on DAY 3", both.count(6), 1);
        both.moor(1, 0);
        both.rule(0, 99999);
        both.send(1, 0);
        both.run(1);
        due.is("TUG 1 sends on DAY 6 what comes on DAY 7", both.count(11), 6);
        both.run(1);
        due.is("TUG 0's came on DAY 6", both.told(0, 10), 0);
        both.run(1);
        due.is("it has an OWNER", both.told(0, 10), 0);
    }

    private static void claimsOfOthers() {
        due.says("a ROCK without an OWNER has the TUG for OWNER whose CLAIM came");
        // the first CLAIM is slow, the second is fast and comes ahead
        RockTugs x = new RockTugs();
        x.rock(2, 2000, 0, 1, 0);
        x.tug(0, 0, 0, 0);
        x.tug(0, 0, 0, 0);
        Due.program(x, 0, "claim free");
        x.rule(0, 99999);
        x.moor(0, 0);
        x.send(0, 0);
        x.run(1);
        x.rule(0, 100);
        x.run(2);
        due.is("slow", x.count(6), 1);
        x.rule(0, 99999);
        x.moor(1, 0);
        x.send(1, 0);
        x.run(2);
        due.is("two on their way", x.count(6), 2);
        x.run(1);
        due.is("the one that came", x.told(0, 10), 1);
        x.run(30);
        due.is("the other one came too late", x.count(6), 0);
        due.is("OWNER stays", x.told(0, 10), 1);
    }

    private static void claimsFull() {
        due.says("20 CLAIMS at most on their way: more are not sent");
        RockTugs x = new RockTugs();
        x.rock(0, 500, 0, 1, 0);
        x.tug(0, 0, 0, 0);
        x.moor(0, 0);
        Due.program(x, 0, "while 1{claim}");
        x.send(0, 0);
        x.rule(0, 1);
        x.run(20);
        due.is("19", x.count(6), 19);
        x.run(1);
        due.is("20", x.count(6), 20);
        x.run(1);
        due.is("20 at most", x.count(6), 20);
        due.is("it is not done, the TUG goes on", x.has(0, 10), 0);
        // one more TUG at another ROCK can't claim now
        x.rock(0, 0, 0, 1, 0);
        x.tug(0, 0, 0, 0);
        x.moor(1, 1);
        Due.program(x, 1, "claim");
        x.send(1, 1);
        x.run(3);
        due.is("not sent", x.told(1, 10), NONE);
        due.is("20", x.count(6), 20);
    }

    private static void whatIsOnItsWay() {
        due.says("What is on its way keeps when it is due.");
        RockTugs x = new RockTugs();
        x.rock(0, 5000, 0, 1, 0);
        x.tug(0, 0, 0, 9);
        x.moor(0, 0);
        Due.program(x, 0, "claim wait");
        x.rule(0, 99999);
        x.send(0, 0);
        x.rule(0, 1000);
        x.run(2);
        due.is("a CLAIM of DAY 1, due on DAY 7", x.count(6), 1);
        due.is("REPORTS of DAYS 0 and 1", x.count(5), 2);
        x.send(0, 0);
        due.is("an ORDER, due on DAY 8", x.count(4), 1);
        x.dark(0, 1);
        x.rule(0, 99999);
        x.run(1);
        due.is("faster LIGHT brings nothing sooner", x.count(4) + x.count(5) + x.count(6), 4);
        x.rule(0, 1);
        x.run(3);
        due.is("DAY 5 is gone", x.count(5), 2);
        x.run(1);
        due.is("slower LIGHT keeps nothing back", x.known(0, 5), 0);
        due.is("one more", x.count(5), 1);
        x.run(1);
        due.is("OWNER on DAY 7", x.told(0, 10), 0);
        due.is("the other REPORT", x.known(0, 5), 1);
        due.is("not yet", x.count(4), 1);
        x.run(1);
        due.is("the ORDER on DAY 8", x.count(4), 0);
        due.is("it runs", x.has(0, 10), 0);
    }

    private static void lightAtItsEnds() {
        due.says("LIGHT goes LIGHT (1 .. 99999; 1000 at first) in a DAY");
        RockTugs x = new RockTugs();
        x.tug(0, 999, 0, 0);
        x.tug(0, 1000, 0, 0);
        Due.program(x, 0, "wait");
        due.is("1000 at first", x.send(0, 0), 1);
        due.is("1000 at first", x.send(1, 0), 2);
        due.is("it was", x.rule(0, 99999), 1000);
        due.is("the fastest", x.send(1, 0), 1);
        due.is("it was", x.rule(0, 1), 99999);
        due.is("the slowest", x.send(1, 0), 1001);
        due.is("refused", x.rule(0, 0), RockTugs.BAD);
        due.is("refused", x.rule(0, 100000), RockTugs.BAD);
        due.is("the slowest still", x.send(0, 0), 1000);
    }

    private static void orderOfADay() {
        due.says("A DAY, in this order:");
        // (a) ahead of (b): an ORDER and a CLAIM that come are there for the S of that DAY
        RockTugs x = at(0, 0, 1000, "burn 1,0");
        x.send(0, 0);
        x.run(1);
        due.is("DAY 0: nothing", x.has(0, 12), 0);
        x.run(1);
        due.is("DAY 1: comes and runs", x.has(0, 12), 1);
        // (b) ahead of (c): it moves by what it burnt on that DAY
        due.is("moved on the same DAY", x.has(0, 1), 10);
        // (c) ahead of (d): the REPORT has the PLACE behind the move
        x.run(1);
        due.is("REPORT of DAY 1", x.known(0, 5), 1);
        due.is("behind the move", x.known(0, 0), 10);
        due.says("Then the next DAY comes. CONTRACTS whose last DAY is gone are VOID, if they are not MET.");
        RockTugs y = new RockTugs();
        y.rock(3, 0, 0, 1, 0);
        for (int day = 0; day < 4; day++) y.contract(0, 5, 0, day, 1);
        for (int today = 0; today < 5; today++) {
            for (int day = 0; day < 4; day++) due.is("up to DAY " + day + " on " + today, y.about(day, 2), today <= day ? 1 : 0);
            y.run(1);
        }
    }

    private static void dockedOnesGoAlong() {
        due.says("DOCKED ones go with their ROCK.");
        RockTugs x = new RockTugs();
        x.sun(1000, 0, 100);
        x.rock(3, 0, 0, 1, 0);
        for (int i = 0; i < 3; i++) x.tug(0, 0, 0, 0);
        x.moor(0, 0);
        x.moor(1, 0);
        for (int day = 0; day < 12; day++) {
            x.run(1);
            for (int what = 1; what <= 4; what++) {
                due.is("as its ROCK", x.has(0, what), x.told(0, what));
                due.is("as its ROCK", x.has(1, what), x.told(0, what));
                due.is("a FREE one from the same PLACE is pulled alike", x.has(2, what), x.told(0, what));
            }
        }
    }
}
