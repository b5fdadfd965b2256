/** Promises 28 to 33: windows, the best tour, its rows. */
public final class TourTest {
    private static final Due due = new Due("TourTest");
    private static final int BAD = RockTugs.BAD, FULL = RockTugs.FULL, NO = RockTugs.NO, NONE = RockTugs.NONE, SPENT = RockTugs.SPENT;

    public static void main(String[] args) {
        windows();
        refusals();
        waiting();
        inTime();
        worths();
        ties();
        sixAtMost();
        noWindowTwice();
        tries();
        shut();
        tell();
        check();
        due.end();
    }

    /** ROCK 0 is ICY, the others are plain with WORTH 1, 2, 4, .. */
    private static RockTugs sky() {
        RockTugs x = new RockTugs();
        for (int i = 0; i < 8; i++) {
            x.rock(i == 0 ? 1 : 0, 0, 0, 1, 0);
            if (i > 0) x.stock(i, 2, 1 << i - 1);
        }
        return x;
    }

    private static void windows() {
        RockTugs x = new RockTugs();
        x.rock(0, 0, 0, 1, 0);
        x.rock(0, 0, 0, 1, 0);
        due.is("from", x.window(2, 0, 0, 0, 0, 1), BAD);
        due.is("from", x.window(-1, 0, 0, 0, 0, 1), BAD);
        due.is("to", x.window(0, 2, 0, 0, 0, 1), BAD);
        due.is("to", x.window(0, -1, 0, 0, 0, 1), BAD);
        due.is("the same", x.window(1, 1, 0, 0, 0, 1), BAD);
        due.is("open", x.window(0, 1, -1, 0, 0, 1), BAD);
        due.is("close", x.window(0, 1, 0, 1000, 0, 1), BAD);
        due.is("open above close", x.window(0, 1, 5, 4, 0, 1), BAD);
        due.is("fuel", x.window(0, 1, 0, 0, -1, 1), BAD);
        due.is("fuel", x.window(0, 1, 0, 0, 1000, 1), BAD);
        due.is("days", x.window(0, 1, 0, 0, 0, 0), BAD);
        due.is("days", x.window(0, 1, 0, 0, 0, 201), BAD);
        due.is("window", x.window(0, 1, 0, 999, 999, 200), 0);
        for (int i = 1; i < 16; i++) due.is("window", x.window(1, 0, 999, 999, 0, 1), i);
        due.is("full", x.window(1, 0, 0, 0, 0, 1), FULL);
        due.is("bad first", x.window(1, 1, 0, 0, 0, 1), BAD);
        due.is("windows", x.count(8), 16);
    }

    private static void refusals() {
        RockTugs x = sky();
        due.is("rock", x.tour(8, 0, 0, 0, 1), BAD);
        due.is("rock", x.tour(-1, 0, 0, 0, 1), BAD);
        due.is("t", x.tour(0, -1, 0, 0, 1), BAD);
        due.is("t", x.tour(0, 1000, 0, 2000, 1), BAD);
        due.is("c", x.tour(0, 0, -1, 0, 1), BAD);
        due.is("c", x.tour(0, 0, 1000, 0, 1), BAD);
        due.is("end", x.tour(0, 5, 0, 4, 1), BAD);
        due.is("end", x.tour(0, 5, 0, 2001, 1), BAD);
        due.is("tries", x.tour(0, 0, 0, 0, 0), BAD);
        due.is("tries", x.tour(0, 0, 0, 0, 20001), BAD);
        due.is("none yet", x.check(), NO);
        due.is("leg", x.leg(0), NONE);
        due.is("without WINDOWS", x.tour(0, 999, 999, 2000, 20000), 0);
        due.is("one TRY", x.tour(0, 0, 0, 0, 1), 0);
        due.is("leg", x.leg(0), NONE);
        due.is("leg", x.leg(-1), BAD);
        due.is("check", x.check(), 0);
    }

    private static void rows(RockTugs x, int... rows) {
        for (int v : rows) x.tell(v);
        due.is("rows", x.check(), 0);
    }

    private static void waiting() {
        RockTugs x = sky();
        x.window(0, 1, 7, 9, 60, 3);
        x.window(1, 2, 20, 20, 0, 3);
        due.is("5 + 5 * 10", x.tour(0, 2, 5, 99, 9), 0);
        due.is("5 + 6 * 10", x.tour(0, 1, 5, 99, 9), 3);
        rows(x, 0, 7, 10, 5, 1, 20, 23, 5);
        due.is("exactly", x.tour(0, 2, 10, 99, 9), 3);
        rows(x, 0, 7, 10, 0, 1, 20, 23, 0);
        due.is("at once", x.tour(0, 9, 60, 99, 9), 3);
        rows(x, 0, 9, 12, 0, 1, 20, 23, 0);
        due.is("too late", x.tour(0, 10, 60, 99, 9), 0);
        x.rule(2, 50);
        due.is("RATE 50", x.tour(0, 2, 5, 99, 9), 3);
        rows(x, 0, 7, 10, 195, 1, 20, 23, 195);
        due.is("999 at most", x.tour(0, 0, 900, 99, 9), 3);
        rows(x, 0, 7, 10, 939, 1, 20, 23, 939);
        RockTugs y = sky();
        y.window(1, 0, 5, 5, 10, 1);
        due.is("no FUEL is made at a plain ROCK", y.tour(1, 0, 9, 99, 9), 0);
        due.is("leg", y.leg(0), NONE);
        y.stock(0, 2, 7);
        due.is("with FUEL", y.tour(1, 0, 10, 99, 9), 7);
        due.is("leg", y.leg(0), 0);
    }

    private static void inTime() {
        RockTugs x = sky();
        x.window(0, 1, 5, 9, 0, 10);
        due.is("in time", x.tour(0, 0, 0, 15, 9), 1);
        due.is("not in time", x.tour(0, 0, 0, 14, 9), 0);
        due.is("later", x.tour(0, 9, 0, 19, 9), 1);
        due.is("not in time", x.tour(0, 9, 0, 18, 9), 0);
        due.is("closed", x.tour(0, 10, 0, 99, 9), 0);
    }

    private static void worths() {
        RockTugs x = sky();
        x.stock(0, 2, 500);
        x.window(0, 3, 0, 99, 0, 1);
        x.window(3, 0, 0, 99, 0, 1);
        x.window(0, 4, 0, 99, 0, 1);
        x.window(4, 3, 0, 99, 0, 1);
        due.is("each once; not that at which it begins", x.tour(0, 0, 0, 99, 99), 12);
        rows(x, 2, 0, 1, 0, 3, 1, 2, 0);
        due.is("from another one", x.tour(3, 0, 0, 99, 99), 508);
        rows(x, 1, 0, 1, 0, 2, 1, 2, 0);
    }

    private static void ties() {
        RockTugs x = sky();
        x.stock(2, 2, 0);
        // two ways to ROCK 1: by number the later one ends first
        x.window(0, 1, 0, 99, 0, 5);
        x.window(0, 1, 0, 99, 0, 4);
        due.is("ends first", x.tour(0, 0, 0, 99, 99), 1);
        rows(x, 1, 0, 4, 0);
        // by ROCK 2 it ends on the same DAY with more WINDOWS
        RockTugs y = sky();
        y.stock(2, 2, 0);
        y.window(0, 2, 0, 99, 0, 2);
        y.window(2, 1, 0, 99, 0, 2);
        y.window(0, 1, 0, 99, 0, 4);
        due.is("the fewest WINDOWS", y.tour(0, 0, 0, 99, 99), 1);
        rows(y, 2, 0, 4, 0);
        RockTugs z = sky();
        z.stock(2, 2, 0);
        z.window(2, 1, 0, 99, 0, 2);
        z.window(0, 2, 0, 99, 0, 2);
        z.window(0, 2, 0, 99, 9, 2);
        z.window(2, 1, 0, 99, 0, 2);
        due.is("the first by WINDOWS", z.tour(0, 0, 9, 99, 99), 1);
        rows(z, 1, 0, 2, 9, 0, 2, 4, 9);
        RockTugs w = sky();
        w.stock(1, 2, 0);
        w.window(0, 1, 0, 99, 0, 1);
        due.is("nothing is won: without WINDOWS", w.tour(0, 0, 0, 99, 99), 0);
        due.is("leg", w.leg(0), NONE);
    }

    private static void sixAtMost() {
        RockTugs x = sky();
        for (int i = 0; i < 7; i++) x.window(i, i + 1, 0, 999, 1, 1);
        due.is("six", x.tour(0, 0, 999, 2000, 6), 63);
        rows(x, 0, 0, 1, 998, 1, 1, 2, 997, 2, 2, 3, 996, 3, 3, 4, 995, 4, 4, 5, 994, 5, 5, 6, 993);
        due.is("leg", x.leg(5), 5);
        due.is("leg", x.leg(6), NONE);
    }

    private static void noWindowTwice() {
        RockTugs x = sky();
        x.window(1, 2, 0, 999, 0, 1);
        x.window(2, 1, 0, 999, 0, 1);
        x.window(2, 3, 9, 9, 0, 1);
        due.is("tour", x.tour(1, 0, 0, 2000, 3), 6);
        rows(x, 0, 0, 1, 0, 2, 9, 10, 0);
        due.is("tries", x.tour(1, 0, 0, 2000, 2), SPENT);
    }

    private static void tries() {
        RockTugs x = sky();
        for (int i = 1; i < 8; i++) {
            x.window(0, i, 0, 999, 0, 1);
            x.window(i, 0, 0, 999, 0, 1);
        }
        // 7 ways out, 1 back, then 6 out and back, then 5: 7 + 7 + 42 + 42 + 210 + 210
        due.is("just enough", x.tour(0, 0, 0, 2000, 518), 64 + 32 + 16);
        due.is("leg", x.leg(0), 8);
        due.is("one less", x.tour(0, 0, 0, 5, 517), 64 + 32 + 16);
        due.is("one less", x.tour(0, 0, 0, 2000, 517), SPENT);
        due.is("the latest TOUR stays", x.leg(4), 12);
        due.is("the latest TOUR stays", x.leg(5), NONE);
        RockTugs y = sky();
        for (int i = 0; i < 16; i++) y.window(i % 2, 1 - i % 2, 0, 999, 0, 1);
        due.is("far too many", y.tour(0, 0, 0, 2000, 20000), SPENT);
        due.is("none", y.leg(0), NONE);
        due.is("none", y.check(), NO);
    }

    private static void shut() {
        RockTugs x = sky();
        x.window(0, 1, 0, 9, 0, 1);
        x.window(1, 2, 0, 9, 0, 1);
        due.is("tour", x.tour(0, 0, 0, 99, 9), 3);
        due.is("shut", x.shut(), 2);
        due.is("no more", x.count(8), 0);
        due.is("shut", x.shut(), 0);
        due.is("the latest TOUR stays", x.leg(1), 1);
        rows(x, 0, 0, 1, 0, 1, 1, 2, 0);
        due.is("numbered anew", x.window(0, 1, 0, 9, 0, 1), 0);
        due.is("tour", x.tour(0, 0, 0, 99, 9), 1);
    }

    private static void tell() {
        RockTugs x = sky();
        for (int i = 1; i <= 30; i++) due.is("tell", x.tell(-i), i);
        due.is("full", x.tell(0), FULL);
        due.is("30", x.count(9), 30);
        due.is("no TOUR", x.check(), NO);
        due.is("none waits", x.count(9), 0);
        due.is("tell", x.tell(Integer.MIN_VALUE), 1);
    }

    private static void told(RockTugs x, int want, int... rows) {
        for (int v : rows) x.tell(v);
        due.is("told " + rows.length, x.check(), want);
        due.is("none waits", x.count(9), 0);
    }

    private static void check() {
        RockTugs x = sky();
        x.window(0, 1, 0, 9, 0, 1);
        x.window(1, 2, 0, 9, 0, 1);
        x.tour(0, 0, 5, 99, 9);
        told(x, 0, 0, 0, 1, 5, 1, 1, 2, 5);
        told(x, 1);
        told(x, 8, 0, 0, 1, 5, 1, 1, 2);
        told(x, 9, 0, 0, 1, 5, 1, 1, 2, 5, 0);
        told(x, 1, 1, 0, 1, 5, 1, 1, 2, 5);
        told(x, 4, 0, 0, 1, 6, 1, 1, 2, 5);
        told(x, 8, 0, 0, 1, 5, 1, 1, 2, 4);
        told(x, 0, 0, 0, 1, 5, 1, 1, 2, 5);
        x.tour(3, 0, 5, 99, 9);
        told(x, 0);
        told(x, 1, 0);
    }
}
