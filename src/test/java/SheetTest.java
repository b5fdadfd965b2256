/** Promises 34 to 39: images, sheets, counts. */
public final class SheetTest {
    private static final Due due = new Due("SheetTest");
    private static final int BAD = RockTugs.BAD, NO = RockTugs.NO, NONE = RockTugs.NONE;
    private static final int NOTHING = RockTugs.NOTHING, INDEX = RockTugs.INDEX, SIZE = RockTugs.SIZE;

    public static void main(String[] args) {
        images();
        imagesOfNothing();
        imageLeavesOut();
        imageOfContracts();
        imageOfAll();
        imageOfWindows();
        imageOfPrograms();
        sheets();
        copies();
        counts();
        due.end();
    }

    /** A sky in which something of every kind is under way; TODAY is 6. */
    private static RockTugs busy() {
        RockTugs x = new RockTugs();
        x.sun(3000, 3000, 50);
        x.rock(1, 2000, 0, 50, 15);
        x.rock(3, 0, 100, 900, 0);
        x.stock(0, 0, 70);
        x.stock(1, 2, 9);
        x.weigh(0, 40, 60);
        x.tug(3, 0, 0, 300);
        x.tug(1, 0, 50, 300);
        x.moor(0, 0);
        x.rule(0, 700);
        x.rule(1, 50);
        x.rule(2, 20);
        Due.program(x, 0, "claim dig make still while f>250{burn 3,t-3}free wait");
        Due.program(x, 1, "aim 1 until t>9 dock give while 1{burn 1,1}");
        x.contract(0, 40, 1, 50, 77);
        x.window(0, 1, 3, 20, 9, 4);
        x.tour(0, 0, 0, 100, 9);
        x.send(0, 0);
        x.send(1, 1);
        x.run(6);
        x.send(0, 1);
        return x;
    }

    /** All that can be told of it, as one number. */
    private static long all(RockTugs x) {
        long sum = 17;
        for (int i = 0; i < 9; i++) {
            for (int what = 0; what < 14; what++) {
                sum = sum * 31 + x.told(i, what);
                sum = sum * 31 + x.has(i, what);
                sum = sum * 31 + x.known(i, what);
                sum = sum * 31 + x.patch(i, what);
                sum = sum * 31 + x.about(i, what);
            }
            sum = sum * 31 + x.learnt(i, 0);
            sum = sum * 31 + x.learnt(i, 1);
            sum = sum * 31 + x.leg(i);
            if (i != 9 && i != 10) sum = sum * 31 + x.count(i);
        }
        sum = sum * 31 + x.count(11);
        return sum * 31 + x.paid();
    }

    private static void images() {
        RockTugs x = busy();
        RockTugs same = busy();
        due.is("keep", x.keep(), 6);
        long kept = all(x);
        x.run(20);
        long later = all(x);
        due.is("it went on", later == kept ? 1 : 0, 0);
        x.sun(0, 0, 9);
        x.rock(0, 0, 0, 1, 0);
        x.tug(0, 0, 0, 0);
        x.weigh(0, 50, 50);
        x.contract(0, 1, 1, 90, 1);
        x.shut();
        x.tour(0, 0, 0, 100, 9);
        Due.program(x, 0, "");
        Due.program(x, 2, "wait");
        x.dark(1, 1);
        for (int i = 0; i < 3; i++) x.rule(i, 1);
        due.is("back", x.back(), 6);
        due.is("as it was", all(x), kept);
        due.is("rules, too", x.rule(0, 700), 700);
        due.is("rules, too", x.rule(1, 50), 50);
        due.is("rules, too", x.rule(2, 20), 20);
        x.run(20);
        due.is("goes on as it did", all(x), later);
        due.is("again", x.back(), 6);
        due.is("as it was", all(x), kept);
        same.run(20);
        due.is("and as one without an IMAGE", all(same), later);
        x.run(20);
        x.keep();
        x.run(1);
        due.is("a newer one", x.back(), 26);
        due.is("a newer one", all(x), later);
        due.is("WINDOWS", x.tour(0, 0, 0, 100, 9), 9);
    }

    private static void imagesOfNothing() {
        RockTugs x = new RockTugs();
        due.is("none", x.back(), NO);
        due.is("keep", x.keep(), 0);
        x.rock(2, 5, 5, 7, 5);
        x.rock(1, 5, 5, 5, 5);
        x.stock(0, 0, 5);
        x.stock(0, 1, 50);
        x.stock(0, 2, 5);
        x.stock(1, 0, 50);
        x.speed(0, 5, 5);
        x.weigh(0, 5, 9);
        x.tug(3, 5, 5, 50);
        x.moor(0, 0);
        Due.order(x, 0, "aim 3 still burn 1,1 claim dig wait");
        x.run(6);
        due.is("OWNER", x.told(0, 10), 0);
        due.is("REST", x.told(0, 11), 6);
        due.is("KNOWN", x.known(0, 5), 5);
        due.is("METAL", x.has(0, 7), 20);
        due.is("burnt", x.has(0, 12), 3);
        due.is("WHEEL", x.has(0, 8), 5);
        due.is("AIMS", x.has(0, 11), 3);
        x.tug(3, 5, 5, 50);
        x.moor(1, 1);
        Due.order(x, 1, "dig make burn 1,0 free");
        x.run(4);
        due.is("made", x.has(1, 13), 5);
        x.dark(0, 1);
        x.dark(1, 1);
        due.is("back", x.back(), 0);
        due.is("no ROCK", x.count(1), 0);
        due.is("no PROGRAM", x.count(3), 0);
        // what is made now has nothing of what was in its place
        int[] rock = {0, 1, 1, 0, 0, 1, 1, 0, 0, 0, NONE, 0, 0};
        int[] tug = {0, 1, 1, 0, 0, 1, 0, 0, 0, NONE, NONE, 0, 0, 0};
        for (int i = 0; i < 2; i++) {
            x.rock(0, 1, 1, 1, 1);
            x.tug(0, 1, 1, 1);
            for (int what = 0; what < 13; what++) due.is("told " + what, x.told(i, what), rock[what]);
            for (int what = 0; what < 14; what++) due.is("has " + what, x.has(i, what), tug[what]);
            due.is("nothing KNOWN", x.known(i, 5), NONE);
            due.is("nothing LEARNT", x.learnt(i, 0), 1);
            due.is("nothing LEARNT", x.learnt(i, 1), 99999);
            due.is("not DARK", x.dark(i, 0), 0);
        }
    }

    private static void imageOfContracts() {
        RockTugs x = new RockTugs();
        x.rock(1, 0, 0, 1, 0);
        x.rock(3, 0, 0, 1, 0);
        x.stock(0, 0, 99);
        x.tug(2, 0, 0, 9);
        x.moor(0, 0);
        x.contract(0, 27, 1, 30, 1);
        x.contract(0, 4, 1, 30, 2);
        Due.order(x, 0, "dig free aim 1 dock give free aim 0 dock dig free aim 1 dock give");
        x.run(4);
        due.is("keep", x.keep(), 5);
        due.is("tons", x.about(0, 0), 20);
        due.is("tons", x.about(1, 0), 0);
        x.contract(0, 30, 1, 30, 4);
        x.run(20);
        int[] got = {27, 4, 9};
        for (int i = 0; i < 3; i++) due.is("what it lacks, and no more", x.about(i, 0), got[i]);
        due.is("MET", x.about(0, 1), 10);
        due.is("paid", x.paid(), 3);
        x.back();
        due.is("tons as kept", x.about(0, 0), 20);
        due.is("tons as kept", x.about(1, 0), 0);
        due.is("not MET", x.about(0, 1), NONE);
        due.is("paid", x.paid(), 0);
        due.is("a new one", x.contract(1, 5, 1, 30, 8), 2);
        due.is("a new one has nothing", x.about(2, 0), 0);
        x.run(20);
        due.is("again", x.about(0, 0), 27);
        due.is("again", x.about(1, 1), 10);
        due.is("paid", x.paid(), 3);
    }

    /** As many of all as there may be. */
    private static void imageOfAll() {
        RockTugs x = new RockTugs();
        for (int i = 0; i < 3; i++) x.sun(1000 * i, 3000, 9);
        for (int i = 0; i < 8; i++) x.rock(3, 300 * i, 0, 9, 9);
        for (int i = 0; i < 4; i++) x.tug(i, 300 * i, 0, 9);
        for (int i = 0; i < 8; i++) x.contract(0, 9, i, 99, 9);
        for (int i = 0; i < 16; i++) x.window(i % 8, (i + 1) % 8, 0, 99, 0, 1);
        for (int i = 0; i < 4; i++) Due.program(x, i, "wait ".repeat(24));
        for (int i = 0; i < 30; i++) x.send(i % 4, i % 4);
        x.keep();
        long kept = all(x);
        x.run(9);
        x.back();
        due.is("as it was", all(x), kept);
        int[] most = {3, 8, 4, 4, 30, 0, 0, 8, 16, 0, 0, 0};
        for (int what = 0; what < 12; what++) due.is("count " + what, x.count(what), most[what]);
    }

    private static void imageLeavesOut() {
        RockTugs x = new RockTugs();
        x.sheet(0, 3);
        x.tell(5);
        x.feed(0, 0, 0);
        x.keep();
        x.mark(0, 1, 7);
        x.sheet(1, 2);
        x.tell(6);
        x.feed(0, 0, 0);
        x.back();
        due.is("SHEETS stay", x.mark(0, 1, 7), 7);
        due.is("SHEETS stay", x.mark(1, 0, 0), 0);
        due.is("numbers stay", x.count(9), 2);
        due.is("THE TAPE stays", x.count(10), 24);
    }

    /** WINDOWS that came later stand in the place of those that were kept. */
    private static void imageOfWindows() {
        RockTugs x = new RockTugs();
        for (int i = 0; i < 4; i++) {
            x.rock(0, 0, 0, 1, 0);
            x.stock(i, 2, 1 << i);
        }
        x.window(0, 1, 3, 5, 2, 4);
        x.window(1, 2, 8, 9, 3, 5);
        x.tour(0, 0, 9, 99, 9);
        x.keep();
        x.shut();
        x.window(3, 2, 1, 1, 1, 1);
        x.window(2, 1, 1, 2, 1, 1);
        due.is("another TOUR", x.tour(3, 0, 9, 99, 9), 6);
        x.back();
        due.is("WINDOWS", x.count(8), 2);
        int[] rows = {0, 3, 7, 7, 1, 8, 13, 4};
        for (int v : rows) x.tell(v);
        due.is("the TOUR that was kept", x.check(), 0);
        due.is("found again", x.tour(0, 0, 9, 99, 9), 6);
        for (int v : rows) x.tell(v);
        due.is("the same", x.check(), 0);
        due.is("none from there", x.tour(3, 0, 9, 99, 9), 0);
        due.is("in time", x.tour(0, 5, 5, 14, 9), 6);
        due.is("too late", x.tour(0, 6, 5, 14, 9), 0);
        due.is("too little FUEL", x.tour(0, 5, 4, 14, 9), 2);
    }

    /** A TUG in the midst of its PROGRAM, which is written anew, goes on in the one that was kept. */
    private static void imageOfPrograms() {
        RockTugs x = new RockTugs();
        x.tug(0, 0, 0, 99);
        Due.order(x, 0, "aim 7 burn 1,0 burn 2,0 burn 3,0");
        x.run(1);
        due.is("keep", x.keep(), 2);
        Due.program(x, 0, "wait");
        x.send(0, 0);
        x.run(3);
        x.back();
        due.is("FUEL", x.has(0, 5), 98);
        due.is("PROGRAM", x.has(0, 10), 0);
        due.is("ORDERS", x.count(4), 0);
        x.run(1);
        due.is("goes on there", x.has(0, 5), 96);
        x.run(1);
        due.is("and on", x.has(0, 5), 93);
    }

    private static void sheets() {
        RockTugs x = new RockTugs();
        due.is("sheet", x.sheet(2, 1), BAD);
        due.is("sheet", x.sheet(-1, -1), BAD);
        due.is("n", x.sheet(0, 41), BAD);
        due.is("n", x.sheet(0, -1), SIZE);
        due.is("MISSING", x.mark(0, 0, 1), NOTHING);
        due.is("sheet", x.sheet(0, 40), 40);
        due.is("MISSING", x.mark(1, 0, 1), NOTHING);
        due.is("sheet", x.mark(2, 0, 1), BAD);
        due.is("sheet", x.mark(-1, 0, 1), BAD);
        due.is("place", x.mark(0, 40, 1), INDEX);
        due.is("place", x.mark(0, -1, 1), INDEX);
        due.is("mark", x.mark(0, 39, 32768), 0);
        due.is("as a short", x.mark(0, 39, 65535), -32768);
        due.is("as a short", x.mark(0, 39, 65536 + 5), -1);
        due.is("as a short", x.mark(0, 39, 5), 5);
        x.mark(0, 0, 5);
        due.is("anew", x.sheet(0, 40), 40);
        due.is("all 0", x.mark(0, 39, 9), 0);
        due.is("all 0", x.mark(0, 0, 9), 0);
        due.is("none", x.sheet(0, 0), 0);
        due.is("no place", x.mark(0, 0, 1), INDEX);
        due.is("SIZE changes nothing", x.sheet(0, -5), SIZE);
        due.is("no place", x.mark(0, 0, 1), INDEX);
        due.is("anew", x.sheet(0, 40), 40);
        due.is("all 0", x.mark(0, 39, 9), 0);
    }

    private static void copies() {
        RockTugs x = new RockTugs();
        x.sheet(0, 5);
        for (int i = 0; i < 5; i++) x.mark(0, i, i + 1);
        due.is("sheet", x.copy(2, 0, 0, 0, 1), BAD);
        due.is("sheet", x.copy(0, 0, -1, 0, 1), BAD);
        due.is("MISSING", x.copy(0, 0, 1, 0, 1), NOTHING);
        due.is("MISSING", x.copy(1, 9, 0, 0, -1), NOTHING);
        x.sheet(1, 0);
        due.is("without places", x.copy(0, 0, 1, 0, 1), INDEX);
        due.is("without places", x.copy(1, 0, 0, 0, 1), INDEX);
        due.is("without places, none", x.copy(1, 0, 1, 0, 0), 0);
        x.sheet(1, 3);
        due.is("many", x.copy(0, 0, 1, 0, -1), INDEX);
        due.is("place", x.copy(0, -1, 1, 0, 1), INDEX);
        due.is("place", x.copy(0, 3, 1, 0, 3), INDEX);
        due.is("at", x.copy(0, 0, 1, -1, 1), INDEX);
        due.is("at", x.copy(0, 0, 1, 1, 3), INDEX);
        due.is("many", x.copy(0, 0, 1, 0, Integer.MAX_VALUE), INDEX);
        due.is("place", x.copy(0, Integer.MAX_VALUE, 1, 0, Integer.MAX_VALUE), INDEX);
        due.is("many", x.copy(0, 0, 1, 0, Integer.MIN_VALUE), INDEX);
        due.is("none, behind the last place", x.copy(0, 5, 1, 3, 0), 0);
        due.is("none, further", x.copy(0, 6, 1, 0, 0), INDEX);
        due.is("none, further", x.copy(0, 0, 1, 4, 0), INDEX);
        due.is("copy", x.copy(0, 2, 1, 0, 3), 3);
        for (int i = 0; i < 3; i++) due.is("copied", x.mark(1, i, 0), i + 3);
        due.is("the same, up", x.copy(0, 0, 0, 1, 4), 4);
        int[] up = {1, 1, 2, 3, 4};
        for (int i = 0; i < 5; i++) due.is("as they were", x.mark(0, i, i + 1), up[i]);
        due.is("the same, down", x.copy(0, 1, 0, 0, 4), 4);
        int[] down = {2, 3, 4, 5, 5};
        for (int i = 0; i < 5; i++) due.is("as they were", x.mark(0, i, 0), down[i]);
    }

    private static void counts() {
        RockTugs x = busy();
        x.tell(1);
        x.feed(1, 2, 3);
        x.trim(7);
        int[] want = {1, 2, 2, 2, 1, 0, 1, 1, 1, 1, 7, 6};
        want[5] = x.count(5);
        for (int what = 0; what < 12; what++) due.is("count " + what, x.count(what), want[what]);
        due.is("REPORTS", x.count(5) > 0 ? 1 : 0, 1);
        due.is("what", x.count(12), BAD);
        due.is("what", x.count(-1), BAD);
    }
}
