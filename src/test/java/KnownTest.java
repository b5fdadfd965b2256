/** Promises 22 to 24: what is known of tugs, patches, near misses. */
public final class KnownTest {
    private static final Due due = new Due("KnownTest");
    private static final int BAD = RockTugs.BAD, NONE = RockTugs.NONE;
    private static final int EDGE = 9999999;

    public static void main(String[] args) {
        known();
        overtaken();
        reportsFull();
        patch();
        patchEnds();
        miss();
        missDocked();
        due.end();
    }

    private static void known() {
        RockTugs x = new RockTugs();
        x.tug(0, 1000, -800, 40);
        due.is("tug", x.known(1, 0), BAD);
        due.is("tug", x.known(-1, 0), BAD);
        due.is("what", x.known(0, 6), BAD);
        due.is("what", x.known(0, -1), BAD);
        due.is("no REPORT", x.known(0, 0), NONE);
        Due.program(x, 0, "burn 3,-4");
        due.is("order", x.send(0, 0), 2);
        x.run(2);
        due.is("on their way", x.count(5), 2);
        due.is("FAR 1400: not yet", x.known(0, 5), NONE);
        x.run(1);
        int[] want = {1000, -800, 0, 0, 40, 0};
        for (int what = 0; what < 6; what++) due.is("known " + what, x.known(0, what), want[what]);
        x.run(2);
        int[] then = {1030, -840, 30, -40, 33, 2};
        for (int what = 0; what < 6; what++) due.is("known then " + what, x.known(0, what), then[what]);
        x.dark(0, 1);
        x.run(10);
        due.is("the latest of all", x.known(0, 5), 4);
        due.is("none on their way", x.count(5), 0);
    }

    private static void overtaken() {
        RockTugs x = new RockTugs();
        x.rock(0, 5000, 0, 1, 0);
        x.tug(0, 0, 0, 0);
        x.moor(0, 0);
        x.run(2);
        x.rule(0, 99999);
        x.run(2);
        due.is("a later one overtakes", x.known(0, 5), 2);
        due.is("on their way", x.count(5), 3);
        x.dark(0, 1);
        x.run(4);
        due.is("the older ones change nothing", x.known(0, 5), 3);
        due.is("none on their way", x.count(5), 0);
    }

    private static void reportsFull() {
        RockTugs x = new RockTugs();
        for (int i = 0; i < 4; i++) x.tug(0, 1000000, 0, 0);
        x.run(14);
        due.is("56", x.count(5), 56);
        x.run(3);
        due.is("60 at most", x.count(5), 60);
    }

    private static void patch() {
        RockTugs x = new RockTugs();
        x.tug(0, 1000, -800, 40);
        due.is("tug", x.patch(1, 0), BAD);
        due.is("tug", x.patch(-1, 0), BAD);
        due.is("what", x.patch(0, 5), BAD);
        due.is("what", x.patch(0, -1), BAD);
        due.is("no REPORT", x.patch(0, 0), NONE);
        Due.program(x, 0, "burn 3,-4 burn 9,0");
        x.send(0, 0);
        x.run(3);
        x.dark(0, 1);
        x.run(2);
        due.is("known", x.known(0, 5), 2);
        // DAY 2's end: 1030, -840 with 30, -40; n = 5 - 2 - 1 = 2; SPREAD 100 * 2 * 3 / 2
        due.is("least x", x.patch(0, 0), 1090 - 300);
        due.is("greatest x", x.patch(0, 1), 1090 + 300);
        due.is("least y", x.patch(0, 2), -920 - 300);
        due.is("greatest y", x.patch(0, 3), -920 + 300);
        due.is("holds it", x.patch(0, 4), 1);
        due.is("x", x.has(0, 1), 1270);
        x.rule(1, 60);
        due.is("G 60 still holds it", x.patch(0, 4), 1);
        x.rule(1, 59);
        due.is("G 59 does not", x.patch(0, 4), 0);
        due.is("greatest x", x.patch(0, 1), 1090 + 177);
        x.rule(1, 0);
        due.is("G 0", x.patch(0, 0), 1090);
        due.is("G 0", x.patch(0, 1), 1090);
        due.is("y too", x.patch(0, 2), -920);
        RockTugs y = new RockTugs();
        y.rule(1, 0);
        y.tug(0, 0, 0, 40);
        Due.program(y, 0, "burn 0,3");
        y.run(1);
        y.dark(0, 1);
        y.send(0, 0);
        y.run(2);
        due.is("y alone is off", y.patch(0, 4), 0);
        due.is("x holds", y.patch(0, 0), y.has(0, 1));
    }

    private static void patchEnds() {
        RockTugs x = new RockTugs();
        x.rule(1, 9999);
        x.tug(0, 0, 0, 0);
        x.run(1);
        x.dark(0, 1);
        for (int i = 0; i < 99; i++) x.run(30);
        due.is("least x", x.patch(0, 0), -EDGE);
        due.is("greatest x", x.patch(0, 1), EDGE);
        due.is("least y", x.patch(0, 2), -EDGE);
        due.is("greatest y", x.patch(0, 3), EDGE);
        due.is("holds it", x.patch(0, 4), 1);
        RockTugs y = new RockTugs();
        y.rule(1, 0);
        y.rule(0, 99999);
        y.rock(0, 0, 0, 1, 0);
        y.speed(0, 50000, -50000);
        y.tug(0, 0, 0, 0);
        y.moor(0, 0);
        y.run(1);
        y.dark(0, 1);
        for (int i = 0; i < 20; i++) y.run(30);
        due.is("both ends are beyond", y.patch(0, 0), EDGE);
        due.is("both ends are beyond", y.patch(0, 1), EDGE);
        due.is("both ends are beyond", y.patch(0, 2), -EDGE);
        due.is("both ends are beyond", y.patch(0, 3), -EDGE);
        due.is("it is at the end, too", y.patch(0, 4), 1);
    }

    private static void miss() {
        RockTugs x = new RockTugs();
        x.rock(0, 0, 0, 1, 0);
        x.rock(0, 100, 40, 1, 0);
        x.tug(0, -50, 0, 9);
        x.tug(0, -50, 0, 9);
        x.speed(0, 10, 0);
        due.is("n 0", x.miss(0, 1, 0, 0), 120);
        due.is("n 0", x.miss(0, 1, 0, 1), 0);
        due.is("n 3", x.miss(0, 1, 3, 0), 90);
        due.is("n 3", x.miss(1, 0, 3, 1), 3);
        due.is("n 60", x.miss(0, 1, 60, 0), 40);
        due.is("n 60", x.miss(0, 1, 60, 1), 10);
        due.is("n 60 of a TUG", x.miss(0, 10, 60, 0), 50);
        due.is("two TUGS", x.miss(11, 10, 60, 0), 0);
        due.is("the first of several", x.miss(11, 10, 60, 1), 0);
        due.is("n", x.miss(0, 1, 61, 0), BAD);
        due.is("n", x.miss(0, 1, -1, 0), BAD);
        due.is("what", x.miss(0, 1, 1, 2), BAD);
        due.is("what", x.miss(0, 1, 1, -1), BAD);
        due.is("one", x.miss(1, 1, 1, 0), BAD);
        due.is("one", x.miss(10, 10, 1, 0), BAD);
        due.is("body", x.miss(2, 1, 1, 0), BAD);
        due.is("body", x.miss(1, 2, 1, 0), BAD);
        due.is("body", x.miss(9, 1, 1, 0), BAD);
        due.is("body", x.miss(12, 1, 1, 0), BAD);
        due.is("body", x.miss(0, -1, 1, 0), BAD);
        due.is("nothing moved", x.told(0, 1), 0);
        due.is("no DAY went by", x.count(11), 0);
    }

    private static void missDocked() {
        RockTugs x = new RockTugs();
        x.sun(0, 1000, 9);
        x.rock(0, 0, 0, 1, 0);
        x.rock(0, 100, 40, 1, 0);
        x.tug(0, -50, 0, 9);
        x.moor(0, 0);
        x.speed(0, 10, 0);
        due.is("it goes with its ROCK", x.miss(0, 10, 60, 0), 0);
        Due.program(x, 0, "while 1{burn 0,-9}");
        x.send(0, 0);
        int foretold = x.miss(10, 1, 8, 0);
        due.is("no TUG does anything", foretold, x.miss(0, 1, 8, 0));
        int least = 120;
        RockTugs same = new RockTugs();
        same.sun(0, 1000, 9);
        same.rock(0, 0, 0, 1, 0);
        same.rock(0, 100, 40, 1, 0);
        same.speed(0, 10, 0);
        for (int i = 0; i < 8; i++) {
            same.run(1);
            least = Math.min(least, same.miss(0, 1, 0, 0));
        }
        due.is("as it comes", foretold, least);
    }
}
