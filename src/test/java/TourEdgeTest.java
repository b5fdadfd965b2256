/** Part 5 of the Terms at its edges: windows, tours, tries, rows; promises 28 to 33. */
public final class TourEdgeTest {
    private static final Due due = new Due("TourEdgeTest");
    private static final int NO = RockTugs.NO, NONE = RockTugs.NONE, SPENT = RockTugs.SPENT, FULL = RockTugs.FULL;

    public static void main(String[] args) {
        openAndClose();
        lastDays();
        inTime();
        fuelThen();
        waitingMakesFuel();
        mostFuel();
        rateAtItsEnds();
        waitingOnTheWay();
        sixAtMost();
        noneTwice();
        whereTheOneAheadEnds();
        worthEachOnce();
        worthOfAWayBack();
        worthAtItsEnds();
        mostWorth();
        endsFirst();
        fewest();
        firstByWindows();
        withoutWindows();
        tries();
        triesOfThoseThatCan();
        spentKeepsTheLatest();
        shut();
        legs();
        numbersThatWait();
        check();
        checkLong();
        due.end();
    }

    /** ROCK 0 is ICY, ROCKS 1 .. 7 are plain with WORTH 1, 2, 4, .. */
    private static RockTugs sky() {
        RockTugs x = new RockTugs();
        for (int i = 0; i < 8; i++) {
            x.rock(i == 0 ? 1 : 0, 0, 0, 1, 0);
            if (i > 0) x.stock(i, 2, 1 << i - 1);
        }
        return x;
    }

    private static void rows(RockTugs x, int... rows) {
        for (int v : rows) x.tell(v);
        due.is("rows", x.check(), 0);
        for (int i = 0; i < 7; i++) due.is("leg " + i, x.leg(i), 4 * i < rows.length ? rows[4 * i] : NONE);
    }

    private static void openAndClose() {
        due.says("it is left on its open DAY, or, if one is there later, at once, by its close at the latest");
        int[][] windows = {{5, 9}, {5, 5}, {0, 0}, {0, 3}, {998, 999}, {999, 999}};
        for (int[] w : windows) {
            for (int t = Math.max(0, w[0] - 2); t <= Math.min(999, w[1] + 2); t++) {
                RockTugs x = sky();
                x.window(1, 2, w[0], w[1], 3, 4);
                boolean can = t <= w[1];
                due.is(w[0] + " .. " + w[1] + " on DAY " + t, x.tour(1, t, 7, 2000, 9), can ? 2 : 0);
                int left = Math.max(t, w[0]);
                if (can) rows(x, 0, left, left + 4, 4);
                else rows(x);
            }
        }
        // one is there later by a WINDOW ahead
        for (int days = 1; days <= 8; days++) {
            RockTugs x = sky();
            x.window(1, 2, 0, 0, 0, days);
            x.window(2, 3, 4, 6, 0, 1);
            boolean can = days <= 6;
            due.is("there on DAY " + days, x.tour(1, 0, 0, 2000, 9), can ? 6 : 2);
            int left = Math.max(4, days);
            if (can) rows(x, 0, 0, days, 0, 1, left, left + 1, 0);
            else rows(x, 0, 0, days, 0);
        }
    }

    private static void lastDays() {
        due.says("from a ROCK to another one, left on DAYS open .. close (0 .. 999), FUEL 0 .. 999, DAYS 1 .. 200.");
        RockTugs x = sky();
        x.window(1, 2, 999, 999, 999, 200);
        due.is("the latest of all", x.tour(1, 999, 999, 2000, 1), 2);
        rows(x, 0, 999, 1199, 0);
        due.is("as late", x.tour(1, 0, 999, 1199, 1), 2);
        due.is("a DAY too late", x.tour(1, 0, 999, 1198, 1), 0);
        RockTugs y = sky();
        y.window(1, 2, 0, 0, 0, 1);
        due.is("the earliest of all", y.tour(1, 0, 0, 1, 1), 2);
        rows(y, 0, 0, 1, 0);
        due.is("a DAY too late", y.tour(1, 0, 0, 0, 1), 0);
        due.is("closed", y.tour(1, 1, 0, 2000, 1), 0);
    }

    private static void inTime() {
        due.says("A TOUR begins at a ROCK on a DAY with FUEL c, and ends on a told DAY at the latest");
        for (int end = 12; end <= 22; end++) {
            RockTugs x = sky();
            x.window(1, 2, 5, 9, 0, 10);
            x.window(2, 3, 0, 999, 0, 5);
            int want = end < 15 ? 0 : end < 20 ? 2 : 6;
            due.is("up to DAY " + end, x.tour(1, 0, 0, end, 9), want);
            if (want == 0) rows(x);
            if (want == 2) rows(x, 0, 5, 15, 0);
            if (want == 6) rows(x, 0, 5, 15, 0, 1, 15, 20, 0);
        }
        for (int t = 5; t <= 10; t++) {
            RockTugs x = sky();
            x.window(1, 2, 5, 9, 0, 10);
            due.is("from DAY " + t, x.tour(1, t, 0, 18, 9), t <= 8 ? 2 : 0);
        }
    }

    private static void fuelThen() {
        due.says("it must have its FUEL then, and end in time");
        for (int c = 0; c <= 12; c++) {
            RockTugs x = sky();
            x.window(1, 2, 0, 99, 5, 1);
            x.window(2, 3, 0, 99, 6, 1);
            int want = c < 5 ? 0 : c < 11 ? 2 : 6;
            due.is("with FUEL " + c, x.tour(1, 0, c, 99, 9), want);
            if (want == 2) rows(x, 0, 0, 1, c - 5);
            if (want == 6) rows(x, 0, 0, 1, c - 5, 1, 1, 2, c - 11);
        }
        RockTugs most = sky();
        most.window(1, 2, 0, 0, 999, 1);
        due.is("all of it", most.tour(1, 0, 999, 99, 9), 2);
        due.is("one less", most.tour(1, 0, 998, 99, 9), 0);
        RockTugs none = sky();
        none.window(1, 2, 0, 0, 0, 1);
        due.is("none", none.tour(1, 0, 0, 99, 9), 2);
    }

    private static void waitingMakesFuel() {
        due.says("On each DAY of waiting at an ICY ROCK it makes RATE (0 .. 50; 10 at first) of FUEL (999 at most).");
        for (int t = 0; t <= 9; t++) {
            for (int c = 0; c <= 3; c++) {
                RockTugs x = sky();
                x.window(0, 1, 7, 9, 33, 3);
                int waited = Math.max(0, 7 - t);
                boolean can = c + 10 * waited >= 33;
                due.is("from DAY " + t + " with " + c, x.tour(0, t, c, 99, 9), can ? 1 : 0);
                if (can) rows(x, 0, Math.max(7, t), Math.max(7, t) + 3, c + 10 * waited - 33);
            }
        }
        for (int kind = 0; kind < 4; kind++) {
            RockTugs x = new RockTugs();
            x.rock(kind, 0, 0, 1, 0);
            x.rock(kind, 0, 0, 1, 0);
            x.stock(1, 2, 5);
            x.window(0, 1, 1, 1, 10, 1);
            due.is("waiting at kind " + kind, x.tour(0, 0, 0, 99, 9), kind == 1 ? 5 : 0);
            due.is("without waiting at kind " + kind, x.tour(0, 1, 0, 99, 9), 0);
            due.is("with FUEL at kind " + kind, x.tour(0, 1, 10, 99, 9), 5);
        }
    }

    private static void mostFuel() {
        due.says("of FUEL (999 at most)");
        for (int c : new int[] {978, 979, 980, 989, 990, 999}) {
            RockTugs x = sky();
            x.window(0, 1, 2, 2, 7, 1);
            due.is("with FUEL " + c, x.tour(0, 0, c, 99, 9), 1);
            rows(x, 0, 2, 3, Math.min(999, c + 20) - 7);
        }
        RockTugs x = sky();
        x.rule(2, 50);
        x.window(0, 1, 999, 999, 999, 1);
        x.window(1, 2, 1000 - 1, 999, 0, 1);
        due.is("long waiting", x.tour(0, 0, 0, 2000, 9), 1);
        rows(x, 0, 999, 1000, 0);
    }

    private static void rateAtItsEnds() {
        due.says("it makes RATE (0 .. 50; 10 at first)");
        RockTugs x = sky();
        x.window(0, 1, 2, 2, 0, 1);
        due.is("tour", x.tour(0, 0, 0, 99, 9), 1);
        rows(x, 0, 2, 3, 20);
        due.is("10 at first", x.rule(2, 0), 10);
        due.is("tour", x.tour(0, 0, 5, 99, 9), 1);
        rows(x, 0, 2, 3, 5);
        due.is("0", x.rule(2, 50), 0);
        due.is("tour", x.tour(0, 0, 5, 99, 9), 1);
        rows(x, 0, 2, 3, 105);
        due.is("refused", x.rule(2, 51), RockTugs.BAD);
        due.is("refused", x.rule(2, -1), RockTugs.BAD);
        due.is("50", x.rule(2, 1), 50);
    }

    /** The waiting is at a later ROCK of the TOUR, an ICY one or not. */
    private static void waitingOnTheWay() {
        due.says("On each DAY of waiting at an ICY ROCK");
        RockTugs x = sky();
        x.window(1, 0, 0, 9, 5, 2);
        x.window(0, 2, 6, 9, 45, 1);
        x.window(2, 3, 10, 10, 0, 1);
        due.is("4 DAYS at the ICY one", x.tour(1, 0, 10, 99, 9), 6);
        rows(x, 0, 0, 2, 5, 1, 6, 7, 0, 2, 10, 11, 0);
        due.is("one FUEL less", x.tour(1, 0, 9, 99, 9), 0);
        due.is("a DAY later", x.tour(1, 1, 10, 99, 9), 0);
    }

    private static void sixAtMost() {
        due.says("a row of up to 6 WINDOWS");
        for (int many = 1; many <= 7; many++) {
            RockTugs x = sky();
            for (int i = 0; i < many; i++) x.window(i, i + 1, 0, 999, 0, 1);
            int legs = Math.min(6, many);
            due.is("of " + many, x.tour(0, 0, 0, 2000, legs), (1 << legs) - 1);
            due.is("the last leg", x.leg(legs - 1), legs - 1);
            due.is("no more", x.leg(legs), NONE);
        }
        // the seventh has all the WORTH, and is not reached
        RockTugs y = sky();
        for (int i = 0; i < 7; i++) y.stock(i, 2, 0);
        y.stock(7, 2, 999);
        for (int i = 0; i < 7; i++) y.window(i, i + 1, 0, 999, 0, 1);
        due.is("not reached", y.tour(0, 0, 0, 2000, 99), 0);
        due.is("reached from the next one", y.tour(1, 0, 0, 2000, 99), 999);
    }

    private static void noneTwice() {
        due.says("none twice, each from where the one ahead ends");
        RockTugs x = sky();
        x.window(1, 2, 0, 999, 0, 1);
        x.window(2, 1, 0, 999, 0, 1);
        x.window(2, 3, 3, 3, 0, 1);
        // 0, then 1 or 2; behind 1 none is left
        due.is("three TRIES", x.tour(1, 0, 0, 2000, 3), 6);
        rows(x, 0, 0, 1, 0, 2, 3, 4, 0);
        due.is("not two", x.tour(1, 0, 0, 2000, 2), SPENT);
        RockTugs y = sky();
        y.window(1, 2, 0, 999, 0, 1);
        y.window(1, 2, 0, 999, 0, 1);
        y.window(2, 1, 0, 999, 0, 1);
        // 0, 0 2, 0 2 1, 1, 1 2, 1 2 0
        due.is("six TRIES", y.tour(1, 0, 0, 2000, 6), 2);
        due.is("not five", y.tour(1, 0, 0, 2000, 5), SPENT);
    }

    private static void whereTheOneAheadEnds() {
        due.says("each from where the one ahead ends");
        RockTugs x = sky();
        x.window(1, 2, 0, 999, 0, 1);
        x.window(3, 4, 0, 999, 0, 1);
        due.is("3 is not where it ends", x.tour(1, 0, 0, 2000, 1), 2);
        rows(x, 0, 0, 1, 0);
        due.is("from elsewhere", x.tour(3, 0, 0, 2000, 1), 8);
        rows(x, 1, 0, 1, 0);
        due.is("from where none begins", x.tour(2, 0, 0, 2000, 1), 0);
        rows(x);
    }

    private static void worthEachOnce() {
        due.says("WORTH of a TOUR: of all ROCKS to which it comes (each once; not that at which it begins).");
        RockTugs x = sky();
        x.window(1, 2, 0, 999, 0, 1);
        x.window(2, 1, 0, 999, 0, 1);
        x.window(1, 3, 5, 999, 0, 1);
        x.window(3, 2, 0, 999, 0, 1);
        x.window(2, 4, 9, 9, 0, 1);
        // by 1, 2, 1, 3, 2, 4 or 1, 3, 2, 4
        due.is("each once, not the first", x.tour(1, 0, 0, 2000, 99), 2 + 4 + 8);
        rows(x, 2, 5, 6, 0, 3, 6, 7, 0, 4, 9, 10, 0);
        RockTugs back = sky();
        back.stock(1, 2, 500);
        back.window(1, 2, 0, 999, 0, 1);
        back.window(2, 1, 0, 999, 0, 1);
        due.is("not that at which it begins", back.tour(1, 0, 0, 2000, 99), 2);
        rows(back, 0, 0, 1, 0);
        due.is("from the other one", back.tour(2, 0, 0, 2000, 99), 500);
    }

    /** It must come back to where it was to go on: that adds nothing and takes nothing. */
    private static void worthOfAWayBack() {
        due.says("(each once; not that at which it begins)");
        RockTugs x = sky();
        x.window(1, 2, 0, 999, 0, 1);
        x.window(2, 1, 0, 999, 0, 1);
        x.window(1, 3, 0, 999, 0, 1);
        x.window(3, 2, 0, 999, 0, 1);
        x.window(2, 4, 4, 4, 0, 1);
        due.is("back to where it begins", x.tour(1, 0, 0, 3, 99), 6);
        rows(x, 2, 0, 1, 0, 3, 1, 2, 0);
        RockTugs y = sky();
        y.window(1, 2, 0, 999, 0, 1);
        y.window(2, 1, 0, 999, 0, 1);
        y.window(1, 3, 0, 999, 0, 1);
        due.is("back to where it begins", y.tour(1, 0, 0, 2000, 99), 6);
        rows(y, 0, 0, 1, 0, 1, 1, 2, 0, 2, 2, 3, 0);
        RockTugs z = sky();
        z.window(1, 2, 0, 999, 0, 1);
        z.window(2, 3, 0, 999, 0, 1);
        z.window(3, 2, 0, 999, 0, 1);
        z.window(2, 4, 0, 999, 0, 1);
        due.is("twice at 2", z.tour(1, 0, 0, 2000, 99), 2 + 4 + 8);
        rows(z, 0, 0, 1, 0, 1, 1, 2, 0, 2, 2, 3, 0, 3, 3, 4, 0);
    }

    private static void worthAtItsEnds() {
        due.says("a WORTH 0 .. 999 (0 at first)");
        RockTugs x = new RockTugs();
        for (int i = 0; i < 7; i++) {
            x.rock(0, 0, 0, 1, 0);
            if (i > 0) x.window(i - 1, i, 0, 999, 0, 1);
        }
        due.is("0 at first: without WINDOWS", x.tour(0, 0, 0, 2000, 9), 0);
        rows(x);
        for (int i = 0; i < 7; i++) x.stock(i, 2, 999);
        due.is("the most of all", x.tour(0, 0, 0, 2000, 9), 6 * 999);
        x.stock(6, 2, 0);
        due.is("nothing at its end", x.tour(0, 0, 0, 2000, 9), 5 * 999);
        due.is("so it is not gone to", x.leg(5), NONE);
    }

    private static void mostWorth() {
        due.says("THE TOUR: the most WORTH; of several the one that ends first");
        // one more of WORTH is better than any DAY and any number of WINDOWS
        RockTugs x = sky();
        x.stock(1, 2, 10);
        for (int i = 2; i < 7; i++) x.stock(i, 2, i == 2 ? 3 : 2);
        x.window(0, 1, 0, 999, 0, 1);
        for (int i = 1; i < 6; i++) x.window(i == 1 ? 0 : i, i + 1, 0, 999, 0, 200);
        due.is("11 at the end of all", x.tour(0, 0, 0, 2000, 99), 11);
        due.is("leg", x.leg(4), 5);
        x.stock(6, 2, 1);
        due.is("10 at once", x.tour(0, 0, 0, 2000, 99), 10);
        rows(x, 0, 0, 1, 0);
    }

    private static void endsFirst() {
        due.says("of several the one that ends first (that without WINDOWS on the DAY on which it begins)");
        for (int order = 0; order < 2; order++) {
            RockTugs x = sky();
            x.window(1, 2, 0, 999, 0, order == 0 ? 5 : 4);
            x.window(1, 2, 0, 999, 0, order == 0 ? 4 : 5);
            due.is("tour", x.tour(1, 0, 0, 2000, 99), 2);
            rows(x, 1 - order, 0, 4, 0);
        }
        // with more WINDOWS, but earlier
        RockTugs x = sky();
        x.stock(3, 2, 0);
        x.window(1, 2, 0, 999, 0, 9);
        x.window(1, 3, 0, 999, 0, 4);
        x.window(3, 2, 0, 999, 0, 4);
        due.is("tour", x.tour(1, 0, 0, 2000, 99), 2);
        rows(x, 1, 0, 4, 0, 2, 4, 8, 0);
    }

    private static void fewest() {
        due.says("then that with the fewest WINDOWS");
        for (int order = 0; order < 2; order++) {
            RockTugs x = sky();
            x.stock(3, 2, 0);
            if (order == 1) x.window(1, 2, 0, 999, 0, 8);
            x.window(1, 3, 0, 999, 0, 4);
            x.window(3, 2, 0, 999, 0, 4);
            if (order == 0) x.window(1, 2, 0, 999, 0, 8);
            due.is("tour", x.tour(1, 0, 0, 2000, 99), 2);
            rows(x, order == 0 ? 2 : 0, 0, 8, 0);
        }
    }

    private static void firstByWindows() {
        due.says("then the first by WINDOWS");
        RockTugs x = sky();
        for (int i = 0; i < 16; i++) x.window(1, 2, 0, 999, i, 3);
        due.is("tour", x.tour(1, 0, 99, 2000, 99), 2);
        rows(x, 0, 0, 3, 99);
        RockTugs y = sky();
        y.stock(3, 2, 0);
        y.window(3, 2, 0, 999, 1, 3);
        y.window(1, 3, 0, 999, 5, 3);
        y.window(1, 3, 0, 999, 0, 3);
        y.window(3, 2, 0, 999, 0, 3);
        due.is("tour", y.tour(1, 0, 99, 2000, 99), 2);
        rows(y, 1, 0, 3, 94, 0, 3, 6, 93);
        // with other ROCKS on the way, the first WINDOW decides
        RockTugs z = sky();
        z.stock(3, 2, 0);
        z.stock(4, 2, 0);
        z.window(4, 2, 0, 999, 0, 3);
        z.window(1, 3, 0, 999, 0, 3);
        z.window(1, 4, 0, 999, 0, 3);
        z.window(3, 2, 0, 999, 0, 3);
        due.is("tour", z.tour(1, 0, 99, 2000, 99), 2);
        rows(z, 1, 0, 3, 99, 3, 3, 6, 99);
    }

    private static void withoutWindows() {
        due.says("(that without WINDOWS on the DAY on which it begins)");
        RockTugs x = sky();
        x.stock(2, 2, 0);
        x.window(1, 2, 0, 999, 0, 1);
        for (int c : new int[] {0, 1, 999}) {
            for (int t : new int[] {0, 1, 999}) {
                due.is("nothing is won", x.tour(1, t, c, 2000, 1), 0);
                rows(x);
            }
        }
        x.tour(3, 999, 0, 2000, 1);
        due.is("nothing is won, whatever was sought ahead", x.tour(1, 0, 0, 2000, 1), 0);
        rows(x);
        x.stock(2, 2, 7);
        due.is("something is won", x.tour(1, 900, 0, 2000, 1), 7);
        x.stock(2, 2, 0);
        due.is("nothing is won, whatever was sought ahead", x.tour(1, 0, 0, 2000, 1), 0);
        rows(x);
        RockTugs y = sky();
        due.is("no WINDOWS", y.tour(7, 999, 0, 999, 1), 0);
        rows(y);
    }

    private static void tries() {
        due.says("SPENT: more than so many TRIES would be done.");
        // many WINDOWS from 1 to 2 and none from there: as many TRIES
        for (int many : new int[] {1, 2, 16}) {
            RockTugs x = sky();
            for (int i = 0; i < many; i++) x.window(1, 2, 0, 999, 0, 1);
            due.is("just enough", x.tour(1, 0, 0, 2000, many), 2);
            if (many > 1) due.is("one less", x.tour(1, 0, 0, 2000, many - 1), SPENT);
        }
        RockTugs x = sky();
        due.is("none is needed", x.tour(1, 0, 0, 2000, 1), 0);
        // 5 from 1 to 2, 5 from 2 to 1, 6 from 2 to 3
        RockTugs big = sky();
        for (int i = 0; i < 16; i++) big.window(i < 5 ? 1 : 2, i < 5 ? 2 : i < 10 ? 1 : 3, 0, 999, 0, 1);
        // 5 by 1, 5 * 11, 5 * 5 * 4, 100 * 10, 100 * 4 * 3, 1200 * 9 TRIES by the number of WINDOWS
        int all = 5 + 55 + 100 + 1000 + 1200 + 10800;
        due.is("just enough", big.tour(1, 0, 0, 2000, all), 6);
        due.is("one less", big.tour(1, 0, 0, 2000, all - 1), SPENT);
        due.is("the most", big.tour(1, 0, 0, 2000, 20000), 6);
    }

    private static void triesOfThoseThatCan() {
        due.says("It is sought by WINDOWS, by number, each that can be next is put (a TRY).");
        RockTugs x = sky();
        x.window(1, 2, 0, 999, 0, 1);
        x.window(2, 3, 0, 999, 0, 1);
        x.window(1, 2, 0, 4, 0, 1);
        x.window(1, 2, 5, 999, 51, 1);
        x.window(1, 2, 30, 999, 0, 71);
        x.window(3, 4, 0, 6, 0, 1);
        // by DAY 5: 0 and 1; the others are closed, too dear, too long, closed when one is there
        due.is("two TRIES", x.tour(1, 5, 50, 100, 2), 6);
        due.is("one is not enough", x.tour(1, 5, 50, 100, 1), SPENT);
        due.is("one FUEL more: 3 and 1, too", x.tour(1, 5, 51, 100, 3), SPENT);
        due.is("one FUEL more: 3 and 1, too", x.tour(1, 5, 51, 100, 4), 6);
        due.is("one DAY more: 4, too", x.tour(1, 5, 50, 101, 2), SPENT);
        // behind 4 it is DAY 101, and 1 would end on 102
        due.is("one DAY more: 4, too", x.tour(1, 5, 50, 101, 3), 6);
        due.is("two DAYS more: 4 and 1", x.tour(1, 5, 50, 102, 3), SPENT);
        due.is("two DAYS more: 4 and 1", x.tour(1, 5, 50, 102, 4), 6);
    }

    private static void spentKeepsTheLatest() {
        due.says("BAD; SPENT (the latest TOUR stays).");
        RockTugs x = sky();
        x.window(1, 2, 0, 999, 0, 1);
        x.window(2, 3, 0, 999, 0, 1);
        due.is("SPENT ahead of any", x.tour(1, 0, 0, 2000, 1), SPENT);
        due.is("none yet", x.leg(0), NONE);
        due.is("none yet", x.check(), NO);
        due.is("found", x.tour(1, 0, 0, 2000, 2), 6);
        due.is("SPENT", x.tour(1, 0, 0, 2000, 1), SPENT);
        rows(x, 0, 0, 1, 0, 1, 1, 2, 0);
        due.is("BAD", x.tour(8, 0, 0, 2000, 2), RockTugs.BAD);
        rows(x, 0, 0, 1, 0, 1, 1, 2, 0);
        due.is("a new one", x.tour(2, 7, 3, 2000, 1), 4);
        rows(x, 1, 7, 8, 3);
        due.is("one without WINDOWS", x.tour(3, 0, 0, 2000, 1), 0);
        rows(x);
    }

    private static void shut() {
        due.says("WINDOWS are no more (the latest TOUR stays): how many there were.");
        for (int many : new int[] {0, 1, 16}) {
            RockTugs x = sky();
            for (int i = 0; i < many; i++) x.window(1, 2, 0, 999, 0, 1);
            x.tour(1, 0, 0, 2000, 99);
            due.is("shut", x.shut(), many);
            due.is("none", x.count(8), 0);
            due.is("shut again", x.shut(), 0);
            due.is("the latest TOUR stays", x.leg(0), many > 0 ? 0 : NONE);
            if (many > 0) rows(x, 0, 0, 1, 0);
            for (int i = 0; i < 16; i++) due.is("room for all again", x.window(3, 4, 0, 999, 0, 1), i);
            due.is("and no more", x.window(3, 4, 0, 999, 0, 1), FULL);
            due.is("the old ones are gone", x.tour(1, 0, 0, 2000, 99), 0);
            due.is("the new ones are there", x.tour(3, 0, 0, 2000, 99), 8);
        }
    }

    private static void legs() {
        due.says("The i-th WINDOW of the latest TOUR. BAD: i below 0; NONE: it has not so many, or there was none.");
        RockTugs x = sky();
        due.is("there was none", x.leg(0), NONE);
        due.is("there was none", x.leg(6), NONE);
        due.is("below 0", x.leg(-1), RockTugs.BAD);
        for (int i = 0; i < 6; i++) x.window(i, i + 1, 0, 999, 0, 1);
        x.tour(0, 0, 0, 2000, 6);
        for (int i = 0; i < 6; i++) due.is("leg " + i, x.leg(i), i);
        due.is("not so many", x.leg(6), NONE);
        due.is("not so many", x.leg(Integer.MAX_VALUE), NONE);
        due.is("below 0", x.leg(-1), RockTugs.BAD);
        due.is("below 0", x.leg(Integer.MIN_VALUE), RockTugs.BAD);
    }

    private static void numbersThatWait() {
        due.says("One more number waits: how many. FULL: 30 wait.");
        RockTugs x = sky();
        int[] some = {Integer.MIN_VALUE, -1, 0, 1, Integer.MAX_VALUE};
        for (int i = 0; i < 30; i++) {
            due.is("tell", x.tell(some[i % 5]), i + 1);
            due.is("count", x.count(9), i + 1);
        }
        due.is("FULL", x.tell(0), FULL);
        due.is("count", x.count(9), 30);
        due.is("check", x.check(), NO);
        due.is("none", x.count(9), 0);
        due.is("room again", x.tell(0), 1);
    }

    private static void told(RockTugs x, int want, int... rows) {
        for (int v : rows) x.tell(v);
        due.is("told " + rows.length, x.check(), want);
        due.is("none waits", x.count(9), 0);
    }

    private static void check() {
        due.says("are, four by four, ROWS of the latest TOUR: 0; else 1 and how many stand right ahead of the first that is not (or is missing, or one too many).");
        RockTugs x = sky();
        x.window(1, 2, 3, 9, 2, 1);
        x.window(2, 3, 0, 9, 3, 2);
        x.tour(1, 0, 9, 99, 9);
        int[] right = {0, 3, 4, 7, 1, 4, 6, 4};
        told(x, 0, right);
        for (int many = 0; many < 8; many++) told(x, 1 + many, java.util.Arrays.copyOf(right, many));
        for (int wrong = 0; wrong < 8; wrong++) {
            for (int by : new int[] {1, -1, 65536}) {
                int[] rows = right.clone();
                rows[wrong] += by;
                told(x, 1 + wrong, rows);
                // what is behind the first that is not right does not count
                told(x, 1 + wrong, java.util.Arrays.copyOf(rows, wrong + 1));
            }
        }
        told(x, 9, 0, 3, 4, 7, 1, 4, 6, 4, 0);
        told(x, 9, 0, 3, 4, 7, 1, 4, 6, 4, 0, 3, 4, 7);
        told(x, 5, 0, 3, 4, 7, 2, 4, 6, 4, 0);
        told(x, 0, right);
        RockTugs none = sky();
        none.tour(1, 0, 9, 99, 9);
        told(none, 0);
        told(none, 1, 0);
        told(none, 1, 0, 0, 0, 0);
        due.says("The numbers that wait (none do then, with NO, too)");
        told(sky(), NO);
        told(sky(), NO, 1, 2, 3);
    }

    /** ROWS of six WINDOWS are 24 numbers; 30 may wait. */
    private static void checkLong() {
        due.says("ROWS of a TOUR: of each WINDOW its number, the DAY when it is left, when it ends, and the FUEL then.");
        RockTugs x = sky();
        for (int i = 0; i < 6; i++) x.window(i, i + 1, 10 * i + 5, 999, 3, 2 + i);
        due.is("tour", x.tour(0, 2, 100, 2000, 6), 63);
        int[] right = new int[24];
        int fuel = 130;
        for (int i = 0; i < 6; i++) {
            int left = 10 * i + 5;
            fuel -= 3;
            int[] row = {i, left, left + 2 + i, fuel};
            System.arraycopy(row, 0, right, 4 * i, 4);
        }
        told(x, 0, right);
        told(x, 24, java.util.Arrays.copyOf(right, 23));
        told(x, 25, java.util.Arrays.copyOf(right, 25));
        told(x, 25, java.util.Arrays.copyOf(right, 30));
        right[23]++;
        told(x, 24, right);
        told(x, 24, java.util.Arrays.copyOf(right, 30));
    }
}
