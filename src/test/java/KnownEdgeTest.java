/** Part 4 of the Terms at its edges: what is KNOWN, THE PATCH, THE MISS; promises 22 to 24. */
public final class KnownEdgeTest {
    private static final Due due = new Due("KnownEdgeTest");
    private static final int BAD = RockTugs.BAD, NONE = RockTugs.NONE, EDGE = Skies.EDGE;
    private static final int[] SIGNS = {1, -1};

    public static void main(String[] args) {
        noReport();
        knownAtTheEnds();
        patchByDays();
        patchGrowth();
        patchEnds();
        patchHoldsToTheEdge();
        patchOfADarkOne();
        missOfNoDays();
        missFirst();
        missDays();
        missAtTheEnds();
        missOfOne();
        missIsDrift();
        due.end();
    }

    private static void noReport() {
        due.says("KNOWN of a TUG: what 0 x, 1 y, 2 u, 3 v, 4 FUEL, 5 the DAY. BAD; NONE: no REPORT came.");
        RockTugs x = new RockTugs();
        x.tug(0, 0, 0, 9);
        for (int run = 0; run < 2; run++) {
            for (int what = 0; what < 6; what++) due.is("known " + what, x.known(0, what), NONE);
            for (int what = 0; what < 5; what++) due.is("patch " + what, x.patch(0, what), NONE);
            due.is("what 6 of none", x.known(0, 6), BAD);
            due.is("what 5 of none", x.patch(0, 5), BAD);
            if (run == 0) x.run(1);
        }
        due.is("sent, not come", x.count(5), 1);
        x.run(1);
        int[] want = {0, 0, 0, 0, 9, 0};
        for (int what = 0; what < 6; what++) due.is("known " + what, x.known(0, what), want[what]);
    }

    private static void knownAtTheEnds() {
        due.says("KNOWN of a TUG is the REPORT that came with the latest DAY in it.");
        for (int sign : SIGNS) {
            RockTugs x = new RockTugs();
            x.rule(0, 99999);
            x.rock(0, sign * EDGE, -sign * EDGE, 1, 0);
            x.speed(0, sign * EDGE, -sign * EDGE);
            x.tug(0, 0, 0, 999);
            x.moor(0, 0);
            x.run(1);
            x.dark(0, 1);
            for (int i = 0; i < 6; i++) x.run(30);
            int[] want = {sign * EDGE, -sign * EDGE, sign * EDGE, -sign * EDGE, 999, 0};
            for (int what = 0; what < 6; what++) due.is("known " + what, x.known(0, what), want[what]);
            due.is("least x", x.patch(0, 0), sign > 0 ? EDGE : -EDGE);
            due.is("holds it", x.patch(0, 4), 1);
        }
        RockTugs last = new RockTugs();
        last.tug(0, 5, 6, 7);
        for (int i = 0; i < 100; i++) last.run(30);
        due.is("TODAY", last.count(11), 3000);
        due.is("the latest", last.known(0, 5), 2998);
    }

    /** A TUG at 1000, -2000 with SPEED 30, -40 is KNOWN of DAY 1; then it is DARK, and so many DAYS are behind that DAY's end. */
    private static RockTugs behind(int n, int growth) {
        RockTugs x = new RockTugs();
        x.rule(0, 99999);
        x.rule(1, growth);
        x.tug(0, 970, -1960, 99);
        Due.program(x, 0, "burn 3,-4");
        x.send(0, 0);
        x.run(2);
        x.dark(0, 1);
        x.run(1);
        due.is("KNOWN of DAY 1", x.known(0, 5), 1);
        for (int i = 1; i < n; i++) x.run(1);
        return x;
    }

    private static void patchByDays() {
        due.says("THE PATCH, n DAYS behind that DAY's end (n: TODAY less that DAY, and 1 less): x + n u less SPREAD up to x + n u and SPREAD, y likewise; SPREAD: G * n * (n + 1) / 2");
        for (int n = 1; n <= 30; n++) {
            RockTugs x = behind(n, 7);
            int spread = 0;
            for (int i = 1; i <= n; i++) spread += 7 * i;
            due.is("TODAY", x.count(11), n + 2);
            due.is("least x by " + n, x.patch(0, 0), 1000 + 30 * n - spread);
            due.is("greatest x by " + n, x.patch(0, 1), 1000 + 30 * n + spread);
            due.is("least y by " + n, x.patch(0, 2), -2000 - 40 * n - spread);
            due.is("greatest y by " + n, x.patch(0, 3), -2000 - 40 * n + spread);
            due.is("holds it", x.patch(0, 4), 1);
        }
        // n is 0 only when a REPORT comes on the DAY behind its own, and no DAY goes by then: TODAY is one more already
        RockTugs y = new RockTugs();
        y.tug(0, 5, 6, 0);
        y.run(2);
        due.is("KNOWN", y.known(0, 5), 0);
        due.is("n is 1 at least", y.patch(0, 1), 5 + 100);
    }

    private static void patchGrowth() {
        due.says("G 0 .. 9999 (100 at first)");
        RockTugs first = new RockTugs();
        first.tug(0, 0, 0, 0);
        first.run(2);
        due.is("100 at first", first.patch(0, 0), -100);
        due.is("100 at first", first.rule(1, 0), 100);
        due.is("0: a point", first.patch(0, 0), 0);
        due.is("0: a point", first.patch(0, 3), 0);
        due.is("it holds it", first.patch(0, 4), 1);
        first.rule(1, 9999);
        due.is("the most", first.patch(0, 0), -9999);
        due.is("the most", first.patch(0, 3), 9999);
        first.dark(0, 1);
        first.run(1);
        due.is("known is one DAY younger", first.known(0, 5), 1);
        first.run(1);
        due.is("n 2", first.patch(0, 1), 3 * 9999);
        due.is("refused", first.rule(1, 10000), BAD);
        due.is("it stays", first.patch(0, 1), 3 * 9999);
    }

    private static void patchEnds() {
        due.says("(Ends beyond 9999999 are that.)");
        // G 9999: n 44 spreads by 9899010, n 45 by 10348965
        for (int n = 44; n <= 45; n++) {
            RockTugs x = new RockTugs();
            x.rule(1, 9999);
            x.tug(0, 0, 0, 0);
            x.run(1);
            x.dark(0, 1);
            x.run(30);
            x.run(n - 30);
            int spread = n == 44 ? 9899010 : EDGE;
            due.is("least x", x.patch(0, 0), -spread);
            due.is("greatest x", x.patch(0, 1), spread);
            due.is("least y", x.patch(0, 2), -spread);
            due.is("greatest y", x.patch(0, 3), spread);
            due.is("holds it", x.patch(0, 4), 1);
        }
        for (int sign : SIGNS) {
            for (int missing = 0; missing <= 200; missing += 50) {
                RockTugs x = new RockTugs();
                x.rule(0, 99999);
                x.tug(0, sign * (EDGE - missing), -sign * (EDGE - missing), 0);
                x.run(1);
                x.dark(0, 1);
                while (x.known(0, 5) != 0) x.run(1);
                int n = x.count(11) - 1;
                x.rule(1, 1);
                int spread = n * (n + 1) / 2;
                due.is("far ahead", spread > 200 ? 1 : 0, 1);
                int inner = EDGE - missing - spread;
                due.is("x", x.patch(0, sign > 0 ? 1 : 0), sign * EDGE);
                due.is("x", x.patch(0, sign > 0 ? 0 : 1), sign * inner);
                due.is("y", x.patch(0, sign > 0 ? 2 : 3), -sign * EDGE);
                due.is("y", x.patch(0, sign > 0 ? 3 : 2), -sign * inner);
                x.rule(1, 0);
                due.is("without SPREAD", x.patch(0, 0), sign * (EDGE - missing));
            }
        }
        // the longest time, the greatest G and SPEED: nothing wraps
        for (int sign : SIGNS) {
            RockTugs x = new RockTugs();
            x.rule(1, 9999);
            x.rock(0, -sign * EDGE, sign * EDGE, 1, 0);
            x.speed(0, sign * EDGE, -sign * EDGE);
            x.tug(0, 0, 0, 0);
            x.moor(0, 0);
            x.run(1);
            x.dark(0, 1);
            for (int i = 0; i < 99; i++) x.run(30);
            x.run(29);
            due.is("TODAY", x.count(11), 3000);
            due.is("KNOWN", x.known(0, 2), sign * EDGE);
            // 2999 DAYS by the greatest SPEED are 29989997001, SPREAD is 44979001 * 1000 or so
            due.is("least x", x.patch(0, 0), -EDGE);
            due.is("greatest x", x.patch(0, 1), EDGE);
            due.is("least y", x.patch(0, 2), -EDGE);
            due.is("greatest y", x.patch(0, 3), EDGE);
            x.rule(1, 0);
            due.is("without SPREAD", x.patch(0, 0), sign * EDGE);
            due.is("without SPREAD", x.patch(0, 2), -sign * EDGE);
        }
    }

    /** The TUG goes off by 10 p, 10 q a DAY behind what is KNOWN, and is at the edge of THE PATCH. */
    private static void patchHoldsToTheEdge() {
        due.says("4 whether it holds the TUG as it is now (1, 0)");
        int[][] ways = {{1, 0}, {-1, 0}, {0, 1}, {0, -1}, {1, 1}, {-1, 1}};
        for (int[] way : ways) {
            for (int growth = 9; growth <= 11; growth++) {
                RockTugs x = new RockTugs();
                x.rule(1, growth);
                x.tug(0, 0, 0, 99);
                Due.program(x, 0, "burn 0-" + -Math.min(0, way[0]) + "+" + Math.max(0, way[0]) + ",0-" + -Math.min(0, way[1]) + "+" + Math.max(0, way[1]));
                x.run(1);
                x.dark(0, 1);
                x.send(0, 0);
                x.run(1);
                due.is("still at rest", x.patch(0, 4), 1);
                x.run(1);
                // n is 2: it is 10 away, and SPREAD is 3 * G
                due.is("x", x.has(0, 1), 10 * way[0]);
                x.rule(1, 3);
                due.is("SPREAD 9", x.patch(0, 4), 0);
                x.rule(1, 4);
                due.is("SPREAD 12", x.patch(0, 4), 1);
                x.rule(1, growth);
                x.run(2);
                // n is 4: it is 30 away, and SPREAD is 10 * G
                x.rule(1, 3);
                due.is("SPREAD 30: at its edge", x.patch(0, 4), 1);
                x.rule(1, 2);
                due.is("SPREAD 20", x.patch(0, 4), 0);
            }
        }
    }

    private static void patchOfADarkOne() {
        due.says("the REPORT that came with the latest DAY in it. THE PATCH, n DAYS behind that DAY's end");
        RockTugs x = new RockTugs();
        x.tug(0, 0, 0, 0);
        x.run(5);
        due.is("KNOWN", x.known(0, 5), 3);
        due.is("n 1", x.patch(0, 1), 100);
        x.dark(0, 1);
        x.run(1);
        due.is("the last one came", x.known(0, 5), 4);
        due.is("n 1", x.patch(0, 1), 100);
        x.run(1);
        due.is("n 2", x.patch(0, 1), 300);
        x.dark(0, 0);
        x.run(1);
        due.is("n 3", x.patch(0, 1), 600);
        x.run(1);
        due.is("n 1 again", x.patch(0, 1), 100);
    }

    private static RockTugs two(int dx, int dy, int u, int v) {
        RockTugs x = new RockTugs();
        x.rock(0, 0, 0, 1, 0);
        x.rock(0, dx, dy, 1, 0);
        x.speed(0, u, v);
        return x;
    }

    private static void missOfNoDays() {
        due.says("the least FAR of both behind 0 .. n DAYS of DRIFT, and the first such number.");
        RockTugs x = two(100, 40, 10, 0);
        due.is("n 0: FAR as it is", x.miss(0, 1, 0, 0), 120);
        due.is("n 0: 0 DAYS", x.miss(0, 1, 0, 1), 0);
        for (int n = 1; n <= 12; n++) {
            int gone = Math.min(n, 10);
            int dx = 100 - 10 * gone;
            due.is("FAR in " + n, x.miss(0, 1, n, 0), Math.max(dx, 40) + Math.min(dx, 40) / 2);
            due.is("DAYS in " + n, x.miss(0, 1, n, 1), gone);
        }
    }

    private static void missFirst() {
        due.says("and the first such number");
        // as FAR on DAY 4 as on DAY 6 if it passes at the middle between two DAYS
        RockTugs x = two(45, 0, 10, 0);
        due.is("FAR 5 twice", x.miss(0, 1, 60, 0), 5);
        due.is("the first", x.miss(0, 1, 60, 1), 4);
        RockTugs rest = two(3, 3, 0, 0);
        due.is("always the same", rest.miss(0, 1, 60, 0), 4);
        due.is("the first", rest.miss(0, 1, 60, 1), 0);
        RockTugs away = two(-100, 0, 10, 0);
        due.is("ever farther", away.miss(0, 1, 60, 1), 0);
        RockTugs met = two(600, -1200, 10, -20);
        due.is("they meet on the last DAY", met.miss(0, 1, 60, 0), 0);
        due.is("they meet on the last DAY", met.miss(0, 1, 60, 1), 60);
        due.is("not within 59", met.miss(0, 1, 59, 0), 25);
        due.is("not within 59", met.miss(0, 1, 59, 1), 59);
    }

    private static void missDays() {
        due.says("in n (0 .. 60) DAYS");
        RockTugs x = two(6000, 0, 100, 0);
        due.is("60", x.miss(0, 1, 60, 1), 60);
        due.is("61", x.miss(0, 1, 61, 1), BAD);
        due.is("-1", x.miss(0, 1, -1, 1), BAD);
        for (int i = 0; i < 100; i++) x.run(30);
        due.is("behind DAY 3000, too", x.miss(0, 1, 60, 1), 0);
        RockTugs y = two(6000, 0, 100, 0);
        y.speed(0, 0, 0);
        for (int i = 0; i < 100; i++) y.run(30);
        y.speed(0, 100, 0);
        due.is("behind DAY 3000, too", y.miss(0, 1, 60, 0), 0);
        due.is("TODAY", y.count(11), 3000);
    }

    private static void missAtTheEnds() {
        due.says("THE MISS of two bodies in n DAYS");
        RockTugs x = new RockTugs();
        x.rock(0, -EDGE, -EDGE, 1, 0);
        x.rock(0, EDGE, EDGE, 1, 0);
        due.is("from end to end", x.miss(0, 1, 60, 0), 3 * EDGE);
        x.speed(0, EDGE, EDGE);
        x.speed(1, -EDGE, -EDGE);
        due.is("they meet", x.miss(0, 1, 60, 0), 0);
        due.is("in the middle", x.miss(0, 1, 60, 1), 1);
        due.is("n 0", x.miss(0, 1, 0, 0), 3 * EDGE);
    }

    private static void missOfOne() {
        due.says("THE MISS of two bodies (a ROCK, or 10 and a TUG) in n (0 .. 60) DAYS: FAR (what 0), how many DAYS (1). BAD: also if they are one.");
        RockTugs x = new RockTugs();
        for (int i = 0; i < 8; i++) x.rock(0, 10 * i, 0, 1, 0);
        for (int i = 0; i < 4; i++) x.tug(0, 10 * i, 50, 0);
        for (int one = -1; one <= 14; one++) {
            for (int other = -1; other <= 14; other++) {
                boolean bodies = isBody(one) && isBody(other) && one != other;
                int far = Math.abs(placeX(one) - placeX(other));
                int high = one < 10 == other < 10 ? 0 : 50;
                int want = Math.max(far, high) + Math.min(far, high) / 2;
                due.is("miss " + one + ", " + other, x.miss(one, other, 0, 0), bodies ? want : BAD);
            }
        }
        // a TUG and the ROCK at which it is DOCKED are two bodies
        x.moor(0, 3);
        due.is("DOCKED", x.miss(3, 10, 60, 0), 0);
        due.is("DOCKED", x.miss(10, 3, 60, 1), 0);
        due.is("with another one", x.miss(10, 5, 0, 0), 20);
    }

    private static boolean isBody(int number) {
        return number >= 0 && number < 8 || number >= 10 && number < 14;
    }

    private static int placeX(int number) {
        return 10 * (number < 10 ? number : number - 10);
    }

    private static void missIsDrift() {
        due.says("DRIFT: DAYS in which no TUG does anything.");
        // a SUN pulls in it: ROCK 0 comes to x 100, to 200, and back
        RockTugs sun = new RockTugs();
        sun.sun(100, 0, 10);
        sun.rock(0, 0, 0, 1, 0);
        sun.rock(0, 1000100, 0, 1, 0);
        int[] least = {1000100, 1000000, 999900, 999900, 999900};
        int[] days = {0, 1, 2, 2, 2};
        for (int n = 0; n < 5; n++) {
            due.is("FAR in " + n, sun.miss(0, 1, n, 0), least[n]);
            due.is("FAR in " + n, sun.miss(1, 0, n, 0), least[n]);
            due.is("DAYS in " + n, sun.miss(0, 1, n, 1), days[n]);
        }
        // what is foretold comes, if no TUG does anything
        RockTugs x = new RockTugs();
        x.sun(2000, 2000, 30);
        x.sun(-500, 0, 3);
        x.rock(0, 0, 0, 1, 0);
        x.rock(3, 700, 100, 1, 0);
        x.tug(0, 300, 300, 99);
        x.tug(0, 0, 0, 99);
        x.moor(1, 1);
        x.speed(0, 20, 5);
        Due.program(x, 0, "while 1{burn 9,9}");
        int[][] pairs = {{0, 1}, {0, 10}, {1, 10}, {10, 11}, {0, 11}, {1, 11}};
        x.keep();
        for (int[] pair : pairs) {
            x.back();
            int nearest = x.miss(pair[0], pair[1], 0, 0), first = 0;
            for (int i = 1; i <= 30; i++) {
                x.run(1);
                int far = x.miss(pair[0], pair[1], 0, 0);
                if (far < nearest) {
                    nearest = far;
                    first = i;
                }
            }
            x.back();
            x.send(0, 0);
            x.send(1, 0);
            due.is("FAR", x.miss(pair[0], pair[1], 30, 0), nearest);
            due.is("DAYS", x.miss(pair[0], pair[1], 30, 1), first);
            due.is("no DAY went by", x.count(11), 0);
            due.is("no ORDER came", x.count(4), 2);
        }
    }
}
