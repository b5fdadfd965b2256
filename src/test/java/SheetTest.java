/** Promises 34 to 39: images, sheets, counts. */
public final class SheetTest {
    private static final Due due = new Due("SheetTest");
    private static final int BAD = RockTugs.BAD, NO = RockTugs.NO, NONE = RockTugs.NONE;
    private static final int NOTHING = RockTugs.NOTHING, INDEX = RockTugs.INDEX, SIZE = RockTugs.SIZE;

    public static void main(String[] args) {
        images();
        imagesOfNothing();
        imageLeavesOut();
        sheets();
        copies();
        counts();
        due.end();
    }

    /** A sky in which something of every kind is under way; TODAY is 6. */
    private static RockTugs busy() {
        RockTugs x = new RockTugs();
        x.sun(3000, 3000, 50);
        x.rock(1, 2000, 0, 50, 15);
        x.rock(3, 0, 100, 900, 0);
        x.stock(0, 0, 70);
        x.stock(1, 2, 9);
        x.weigh(0, 40, 60);
        x.tug(3, 0, 0, 300);
        x.tug(1, 0, 50, 300);
        x.moor(0, 0);
        x.rule(0, 700);
        x.rule(1, 50);
        x.rule(2, 20);
        Due.program(x, 0, "claim dig make still while f>250{burn 3,t-3}free wait");
        Due.program(x, 1, "aim 1 until t>9 dock give while 1{burn 1,1}");
        x.contract(0, 40, 1, 50, 77);
        x.window(0, 1, 3, 20, 9, 4);
        x.tour(0, 0, 0, 100, 9);
        x.send(0, 0);
        x.send(1, 1);
        x.run(6);
        x.send(0, 1);
        return x;
    }

    /** All that can be told of it, as one number. */
    private static long all(RockTugs x) {
        long sum = 17;
        for (int i = 0; i < 9; i++) {
            for (int what = 0; what < 14; what++) {
                sum = sum * 31 + x.told(i, what);
                sum = sum * 31 + x.has(i, what);
                sum = sum * 31 + x.known(i, what);
                sum = sum * 31 + x.patch(i, what);
                sum = sum * 31 + x.about(i, what);
            }
            sum = sum * 31 + x.learnt(i, 0);
            sum = sum * 31 + x.learnt(i, 1);
            sum = sum * 31 + x.leg(i);
            if (i != 9 && i != 10) sum = sum * 31 + x.count(i);
        }
        sum = sum * 31 + x.count(11);
        return sum * 31 + x.paid();
    }

    private static void images() {
        RockTugs x = busy();
        RockTugs same = busy();
        due.is("keep", x.keep(), 6);
        long kept = all(x);
        x.run(20);
        long later = all(x);
        due.is("it went on", later == kept ? 1 : 0, 0);
        x.sun(0, 0, 9);
        x.rock(0, 0, 0, 1, 0);
        x.tug(0, 0, 0, 0);
        x.weigh(0, 50, 50);
        x.contract(0, 1, 1, 90, 1);
        x.shut();
        x.tour(0, 0, 0, 100, 9);
        Due.program(x, 0, "");
        Due.program(x, 2, "wait");
        x.dark(1, 1);
        for (int i = 0; i < 3; i++) x.rule(i, 1);
        due.is("back", x.back(), 6);
        due.is("as it was", all(x), kept);
        due.is("rules, too", x.rule(0, 700), 700);
        due.is("rules, too", x.rule(1, 50), 50);
        due.is("rules, too", x.rule(2, 20), 20);
        x.run(20);
        due.is("goes on as it did", all(x), later);
        due.is("again", x.back(), 6);
        due.is("as it was", all(x), kept);
        same.run(20);
        due.is("and as one without an IMAGE", all(same), later);
        x.run(20);
        x.keep();
        x.run(1);
        due.is("a newer one", x.back(), 26);
        due.is("a newer one", all(x), later);
        due.is("WINDOWS", x.tour(0, 0, 0, 100, 9), 9);
    }

    private static void imagesOfNothing() {
        RockTugs x = new RockTugs();
        due.is("none", x.back(), NO);
        due.is("keep", x.keep(), 0);
        x.rock(1, 5, 5, 5, 5);
        x.stock(0, 0, 5);
        x.weigh(0, 5, 5);
        x.tug(1, 5, 5, 5);
        x.moor(0, 0);
        Due.order(x, 0, "dig claim wait wait wait wait");
        x.run(4);
        due.is("OWNER", x.told(0, 10), 0);
        due.is("KNOWN", x.known(0, 5), 3);
        due.is("back", x.back(), 0);
        due.is("no ROCK", x.count(1), 0);
        due.is("no PROGRAM", x.count(3), 0);
        // what is made now has nothing of what was in its place
        x.rock(0, 1, 1, 1, 1);
        x.tug(0, 1, 1, 1);
        int[] rock = {0, 1, 1, 0, 0, 1, 1, 0, 0, 0, NONE, 0, 0};
        for (int what = 0; what < 13; what++) due.is("told " + what, x.told(0, what), rock[what]);
        int[] tug = {0, 1, 1, 0, 0, 1, 0, 0, 0, NONE, NONE, 0, 0, 0};
        for (int what = 0; what < 14; what++) due.is("has " + what, x.has(0, what), tug[what]);
        due.is("nothing KNOWN", x.known(0, 5), NONE);
        due.is("nothing LEARNT", x.learnt(0, 1), 99999);
    }

    private static void imageLeavesOut() {
        RockTugs x = new RockTugs();
        x.sheet(0, 3);
        x.tell(5);
        x.feed(0, 0, 0);
        x.keep();
        x.mark(0, 1, 7);
        x.sheet(1, 2);
        x.tell(6);
        x.feed(0, 0, 0);
        x.back();
        due.is("SHEETS stay", x.mark(0, 1, 7), 7);
        due.is("SHEETS stay", x.mark(1, 0, 0), 0);
        due.is("numbers stay", x.count(9), 2);
        due.is("THE TAPE stays", x.count(10), 24);
    }

    private static void sheets() {
        RockTugs x = new RockTugs();
        due.is("sheet", x.sheet(2, 1), BAD);
        due.is("sheet", x.sheet(-1, -1), BAD);
        due.is("n", x.sheet(0, 41), BAD);
        due.is("n", x.sheet(0, -1), SIZE);
        due.is("MISSING", x.mark(0, 0, 1), NOTHING);
        due.is("sheet", x.sheet(0, 40), 40);
        due.is("MISSING", x.mark(1, 0, 1), NOTHING);
        due.is("sheet", x.mark(2, 0, 1), BAD);
        due.is("sheet", x.mark(-1, 0, 1), BAD);
        due.is("place", x.mark(0, 40, 1), INDEX);
        due.is("place", x.mark(0, -1, 1), INDEX);
        due.is("mark", x.mark(0, 39, 32768), 0);
        due.is("as a short", x.mark(0, 39, 65535), -32768);
        due.is("as a short", x.mark(0, 39, 65536 + 5), -1);
        due.is("as a short", x.mark(0, 39, 5), 5);
        due.is("anew", x.sheet(0, 40), 40);
        due.is("all 0", x.mark(0, 39, 9), 0);
        due.is("none", x.sheet(0, 0), 0);
        due.is("no place", x.mark(0, 0, 1), INDEX);
        due.is("SIZE changes nothing", x.sheet(0, -5), SIZE);
        due.is("no place", x.mark(0, 0, 1), INDEX);
        due.is("anew", x.sheet(0, 40), 40);
        due.is("all 0", x.mark(0, 39, 9), 0);
    }

    private static void copies() {
        RockTugs x = new RockTugs();
        x.sheet(0, 5);
        for (int i = 0; i < 5; i++) x.mark(0, i, i + 1);
        due.is("sheet", x.copy(2, 0, 0, 0, 1), BAD);
        due.is("sheet", x.copy(0, 0, -1, 0, 1), BAD);
        due.is("MISSING", x.copy(0, 0, 1, 0, 1), NOTHING);
        due.is("MISSING", x.copy(1, 9, 0, 0, -1), NOTHING);
        x.sheet(1, 3);
        due.is("many", x.copy(0, 0, 1, 0, -1), INDEX);
        due.is("place", x.copy(0, -1, 1, 0, 1), INDEX);
        due.is("place", x.copy(0, 3, 1, 0, 3), INDEX);
        due.is("at", x.copy(0, 0, 1, -1, 1), INDEX);
        due.is("at", x.copy(0, 0, 1, 1, 3), INDEX);
        due.is("many", x.copy(0, 0, 1, 0, Integer.MAX_VALUE), INDEX);
        due.is("place", x.copy(0, Integer.MAX_VALUE, 1, 0, Integer.MAX_VALUE), INDEX);
        due.is("many", x.copy(0, 0, 1, 0, Integer.MIN_VALUE), INDEX);
        due.is("none, behind the last place", x.copy(0, 5, 1, 3, 0), 0);
        due.is("none, further", x.copy(0, 6, 1, 0, 0), INDEX);
        due.is("none, further", x.copy(0, 0, 1, 4, 0), INDEX);
        due.is("copy", x.copy(0, 2, 1, 0, 3), 3);
        for (int i = 0; i < 3; i++) due.is("copied", x.mark(1, i, 0), i + 3);
        due.is("the same, up", x.copy(0, 0, 0, 1, 4), 4);
        int[] up = {1, 1, 2, 3, 4};
        for (int i = 0; i < 5; i++) due.is("as they were", x.mark(0, i, i + 1), up[i]);
        due.is("the same, down", x.copy(0, 1, 0, 0, 4), 4);
        int[] down = {2, 3, 4, 5, 5};
        for (int i = 0; i < 5; i++) due.is("as they were", x.mark(0, i, 0), down[i]);
    }

    private static void counts() {
        RockTugs x = busy();
        x.tell(1);
        x.feed(1, 2, 3);
        x.trim(7);
        int[] want = {1, 2, 2, 2, 1, 0, 1, 1, 1, 1, 7, 6};
        want[5] = x.count(5);
        for (int what = 0; what < 12; what++) due.is("count " + what, x.count(what), want[what]);
        due.is("REPORTS", x.count(5) > 0 ? 1 : 0, 1);
        due.is("what", x.count(12), BAD);
        due.is("what", x.count(-1), BAD);
    }
}
