import java.util.List;

/** Part 6 of the Terms at its edges: images, sheets, counts; promises 34 to 39. */
public final class ImageEdgeTest {
    private static final Due due = new Due("ImageEdgeTest");
    private static final Edges edges = new Edges(due);
    private static final int NO = RockTugs.NO, NONE = RockTugs.NONE, NOTHING = RockTugs.NOTHING, INDEX = RockTugs.INDEX;

    public static void main(String[] args) {
        noImage();
        againAndAgain();
        newerOnes();
        ofAFullSky();
        ofAnEmptySky();
        ofTheFirstAndTheLastDay();
        eachThingByItself();
        eachInItsPlace();
        whatIsOnItsWay();
        whatItLeavesOut();
        latestTour();
        sheetsAtFirst();
        sheetsAnew();
        marks();
        copies();
        copiesByOrder();
        copiesOfItself();
        counts();
        callsOfAnObject();
        due.end();
    }

    private static void noImage() {
        due.says("All is as THE IMAGE: TODAY. NO: there is none.");
        RockTugs x = new RockTugs();
        due.is("none", x.back(), NO);
        x.run(5);
        due.is("none", x.back(), NO);
        due.is("TODAY", x.count(11), 5);
        due.is("keep", x.keep(), 5);
        due.is("back", x.back(), 5);
    }

    private static RockTugs keptAndGone() {
        RockTugs x = Skies.busy();
        x.keep();
        x.run(9);
        x.sun(0, 0, 9);
        x.rock(0, 5, 5, 5, 5);
        x.tug(0, 5, 5, 5);
        x.weigh(0, 50, 50);
        x.speed(0, 9, 9);
        x.stock(0, 0, 9);
        x.dark(0, 1);
        for (int i = 0; i < 3; i++) x.rule(i, 1);
        x.contract(0, 1, 1, 999, 9);
        x.shut();
        x.window(1, 0, 0, 9, 0, 1);
        x.tour(1, 0, 0, 99, 9);
        return x;
    }

    private static RockTugs kept() {
        RockTugs x = Skies.busy();
        x.keep();
        return x;
    }

    private static void againAndAgain() {
        due.says("all can become as it is (again and again)");
        edges.same("back", () -> {
            RockTugs x = keptAndGone();
            due.is("TODAY", x.back(), 14);
            return x;
        }, ImageEdgeTest::kept);
        edges.same("back again", () -> {
            RockTugs x = keptAndGone();
            for (int i = 0; i < 3; i++) {
                x.back();
                x.run(30 - i);
                x.shut();
                x.tug(0, 0, 0, 0);
            }
            due.is("TODAY", x.back(), 14);
            due.is("TODAY", x.back(), 14);
            return x;
        }, ImageEdgeTest::kept);
        // what is done behind it does not reach into the image
        RockTugs x = kept();
        List<Integer> first = Skies.part(x, 0);
        for (int i = 0; i < 2; i++) {
            x.back();
            x.stock(0, 0, 5);
            x.speed(0, 5, 5);
            x.dark(0, 1);
            x.run(30);
        }
        x.back();
        due.is("as it was", Skies.part(x, 0).equals(first) ? 1 : 0, 1);
    }

    private static void newerOnes() {
        due.says("AN IMAGE is kept: TODAY.");
        RockTugs x = new RockTugs();
        due.is("keep", x.keep(), 0);
        x.run(3);
        due.is("keep", x.keep(), 3);
        x.run(4);
        due.is("the newer one", x.back(), 3);
        due.is("keep", x.keep(), 3);
        x.run(1);
        due.is("keep", x.keep(), 4);
        due.is("the newest one", x.back(), 4);
    }

    private static void ofAFullSky() {
        due.says("AN IMAGE keeps all but SHEETS, numbers that wait, THE TAPE");
        edges.same("a full sky", () -> {
            RockTugs x = Skies.full();
            x.run(30);
            x.speed(0, 9, 9);
            x.back();
            return x;
        }, Skies::full);
        // a full one in place of an empty one
        edges.same("an emptied sky", () -> {
            RockTugs x = new RockTugs();
            x.keep();
            for (int i = 0; i < 3; i++) x.sun(5, 5, 5);
            for (int i = 0; i < 8; i++) x.rock(3, 5, 5, 5, 5);
            for (int i = 0; i < 4; i++) x.tug(3, 5, 5, 5);
            for (int i = 0; i < 8; i++) x.contract(0, 5, 5, 5, 5);
            for (int i = 0; i < 16; i++) x.window(0, 1, 5, 5, 5, 5);
            for (int i = 0; i < 4; i++) Due.program(x, i, "while 1{claim}");
            for (int i = 0; i < 30; i++) x.send(0, 0);
            for (int i = 0; i < 8; i++) x.stock(i, 2, 5);
            x.run(30);
            x.tour(0, 5, 5, 55, 9999);
            x.back();
            return x;
        }, () -> {
            RockTugs x = new RockTugs();
            x.keep();
            return x;
        });
    }

    /** What is made anew in a place that had another one has nothing of that. */
    private static void ofAnEmptySky() {
        due.says("One more ROCK, with SPEED 0 and empty STOCKS: its number.");
        RockTugs x = Skies.busy();
        RockTugs y = new RockTugs();
        y.keep();
        y.rock(1, 9, 9, 9, 9);
        y.stock(0, 0, 99);
        y.stock(0, 1, 9);
        y.stock(0, 2, 9);
        y.speed(0, 9, 9);
        y.weigh(0, 8, 10);
        y.tug(3, 9, 9, 9);
        y.dark(0, 1);
        y.moor(0, 0);
        Due.order(y, 0, "aim 5 claim still burn 1,1 dig make");
        y.run(9);
        y.rock(3, 0, 0, 1, 0);
        y.contract(0, 99, 1, 900, 5);
        Due.program(y, 1, "free until k give");
        y.rule(0, 99999);
        y.send(0, 1);
        y.run(2);
        y.moor(0, 1);
        y.run(1);
        due.is("an OWNER", y.told(0, 10), 0);
        due.is("tons", y.about(0, 0), 15);
        y.tug(2, 0, 0, 0);
        y.rock(2, 0, 0, 1, 0);
        y.stock(2, 1, 50);
        y.moor(1, 2);
        Due.program(y, 1, "dig");
        y.send(1, 1);
        y.run(2);
        due.is("METAL", y.has(1, 7), 20);
        y.tug(2, 0, 0, 0);
        y.moor(2, 0);
        y.send(2, 1);
        y.run(2);
        due.is("WATER", y.has(2, 6), 20);
        y.back();
        due.is("rock", y.rock(0, 0, 0, 1, 0), 0);
        due.is("tug", y.tug(0, 0, 0, 0), 0);
        int[] rock = {0, 0, 0, 0, 0, 1, 0, 0, 0, 0, NONE, 0, 0};
        int[] tug = {0, 0, 0, 0, 0, 0, 0, 0, 0, NONE, NONE, 0, 0, 0};
        for (int what = 0; what < rock.length; what++) due.is("told " + what, y.told(0, what), rock[what]);
        for (int what = 0; what < tug.length; what++) due.is("has " + what, y.has(0, what), tug[what]);
        due.is("KNOWN", y.known(0, 0), NONE);
        due.is("DARK", y.dark(0, 0), 0);
        due.is("LEARNT", y.learnt(0, 0), 1);
        due.is("LEARNT", y.learnt(0, 1), 99999);
        y.rock(3, 0, 0, 1, 0);
        for (int i = 1; i < 3; i++) {
            due.is("tug", y.tug(0, 0, 0, 0), i);
            for (int what = 0; what < tug.length; what++) due.is("has " + what, y.has(i, what), tug[what]);
        }
        due.is("contract", y.contract(0, 1, 1, 900, 5), 0);
        due.is("tons", y.about(0, 0), 0);
        due.is("MET", y.about(0, 1), NONE);
        due.is("the other object", x.count(11), 14);
    }

    private static void ofTheFirstAndTheLastDay() {
        due.says("All is as THE IMAGE: TODAY.");
        RockTugs x = Skies.late();
        due.is("keep on the last DAY", x.keep(), 3000);
        due.is("no DAY more", x.run(1), RockTugs.FULL);
        due.is("back", x.back(), 3000);
        RockTugs y = new RockTugs();
        y.tug(0, 0, 0, 9);
        y.keep();
        for (int i = 0; i < 100; i++) y.run(30);
        due.is("no DAY more", y.run(1), RockTugs.FULL);
        due.is("back to the first", y.back(), 0);
        due.is("nothing KNOWN", y.known(0, 5), NONE);
        due.is("DAYS go by again", y.run(30), 30);
    }

    /** Each change by itself is taken back. */
    private static void eachThingByItself() {
        due.says("AN IMAGE keeps all but SHEETS, numbers that wait, THE TAPE");
        int[][] args = {{0, 0, 9}, {0, 5, 5, 5, 5}, {0, 7, 8}, {0, 0, 9}, {0, 1, 9}, {0, 2, 9}, {0}, {0, 50, 50}, {0, 5, 5, 5}, {0, 2}, {0, 1}, {0, 0}, {7}, {0, 5}, {1, 5}, {2, 5}, {1, 9, 1, 99, 9},
            {0, 2, 1, 9, 0, 1}, {}, {0, 3, 20, 99, 99}};
        String[] names = {"sun", "rock", "speed", "stock", "stock", "stock", "lay", "weigh", "tug", "moor", "dark", "send", "run", "rule", "rule", "rule", "contract", "window", "shut", "tour"};
        for (int i = 0; i < names.length; i++) {
            String name = names[i];
            int[] a = args[i];
            edges.same("back behind " + name, () -> {
                RockTugs x = kept();
                due.is(name + " is taken", Skies.call(x, name, a) >= 0 ? 1 : 0, 1);
                x.back();
                return x;
            }, ImageEdgeTest::kept);
        }
        // PROGRAMS and where TUGS are in them
        for (int program = 0; program < 4; program++) {
            int number = program;
            edges.same("back behind program " + program, () -> {
                RockTugs x = kept();
                x.trim(0);
                Due.program(x, number, "wait wait");
                Due.write(x, "dig free");
                x.back();
                return x;
            }, ImageEdgeTest::kept);
        }
    }

    /** A sky with two of each that can be told by what they do, the image of which is kept. */
    private static RockTugs pairs() {
        RockTugs x = new RockTugs();
        x.sun(100, 0, 10);
        x.sun(0, 200, 20);
        x.rock(2, 0, 0, 1, 17);
        x.rock(3, 0, 0, 1, 0);
        x.rock(0, 5000, 0, 1, 0);
        x.stock(0, 1, 50);
        x.stock(1, 2, 5);
        x.stock(2, 2, 6);
        x.tug(1, 0, 0, 50);
        x.tug(1, 0, 0, 50);
        x.moor(0, 0);
        x.dark(1, 1);
        x.contract(1, 9, 1, 70, 5);
        x.contract(1, 3, 1, 80, 6);
        x.window(0, 1, 3, 5, 2, 4);
        x.window(1, 2, 8, 9, 3, 5);
        Due.program(x, 0, "aim 2 dig dig free until k give until 0");
        x.send(0, 0);
        x.run(4);
        x.keep();
        return x;
    }

    /** Others of each come to their places, by an image of an empty sky first. */
    private static void eachInItsPlace() {
        due.says("all can become as it is (again and again)");
        edges.same("back to its own", () -> {
            RockTugs x = pairs();
            x.moor(0, 1);
            x.run(2);
            due.is("tons", x.about(0, 0), 9);
            due.is("METAL", x.has(0, 7), 0);
            x.dark(1, 0);
            Due.program(x, 1, "aim 5 free until k still burn 1,1");
            x.rule(0, 99999);
            x.send(0, 1);
            x.run(2);
            due.is("AIMS elsewhere", x.has(0, 11), 5);
            x.moor(0, 0);
            x.run(2);
            due.is("less SPIN", x.told(0, 6), 12);
            x.shut();
            x.window(2, 1, 1, 1, 1, 1);
            x.window(2, 0, 2, 2, 2, 2);
            x.back();
            return x;
        }, ImageEdgeTest::pairs);
        RockTugs x = pairs();
        due.is("METAL is there to be kept", x.has(0, 7), 10);
        due.is("AIMS", x.has(0, 11), 2);
        due.is("DARK", x.dark(1, 1), 1);
        x.shut();
        x.window(2, 1, 1, 1, 1, 1);
        x.window(2, 0, 2, 2, 2, 2);
        x.back();
        int[] rows = {0, 3, 7, 7, 1, 8, 13, 4};
        due.is("both WINDOWS", x.tour(0, 0, 9, 99, 9), 11);
        for (int v : rows) x.tell(v);
        due.is("as they were", x.check(), 0);
        due.is("the last DAY of both", x.tour(0, 5, 9, 99, 9), 11);
        due.is("closed", x.tour(0, 6, 9, 99, 9), 0);
        due.is("the FUEL of both", x.tour(0, 5, 4, 99, 9), 5);
        x.moor(0, 1);
        x.run(2);
        int[] tons = {9, 1}, met = {4, NONE};
        for (int i = 0; i < 2; i++) {
            due.is("what each lacks, of " + i, x.about(i, 0), tons[i]);
            due.is("MET of " + i, x.about(i, 1), met[i]);
        }
        due.is("paid", x.paid(), 5);
    }

    private static void whatIsOnItsWay() {
        due.says("AN IMAGE keeps all but SHEETS, numbers that wait, THE TAPE");
        RockTugs x = new RockTugs();
        x.rock(0, 5000, 0, 1, 0);
        x.tug(0, 0, 0, 9);
        x.moor(0, 0);
        Due.program(x, 0, "claim burn 1,0 burn 2,0");
        x.rule(0, 99999);
        x.send(0, 0);
        x.run(1);
        x.rule(0, 1000);
        x.run(1);
        x.send(0, 0);
        due.is("keep", x.keep(), 2);
        for (int round = 0; round < 3; round++) {
            int[] want = {1, 1, 1};
            for (int what = 4; what <= 6; what++) due.is("count " + what, x.count(what), want[what - 4]);
            due.is("FUEL", x.has(0, 5), 9);
            x.run(2);
            due.is("goes on in its PROGRAM", x.has(0, 5), 6);
            x.run(4);
            due.is("the CLAIM", x.told(0, 10), 0);
            due.is("the REPORTS", x.known(0, 5) >= 0 ? 1 : 0, 1);
            x.run(6);
            due.is("the ORDER", x.has(0, 12), 6);
            due.is("back", x.back(), 2);
            due.is("no OWNER", x.told(0, 10), NONE);
            due.is("burnt", x.has(0, 12), 0);
        }
    }

    private static void whatItLeavesOut() {
        due.says("AN IMAGE keeps all but SHEETS, numbers that wait, THE TAPE");
        RockTugs x = new RockTugs();
        x.sheet(0, 3);
        x.mark(0, 0, 5);
        x.tell(1);
        Due.write(x, "wait");
        x.keep();
        x.mark(0, 0, 6);
        x.mark(0, 1, 7);
        x.sheet(1, 2);
        x.tell(2);
        x.trim(3);
        x.back();
        due.is("a SHEET stays as it is", x.mark(0, 0, 0), 6);
        due.is("a SHEET stays as it is", x.mark(0, 1, 0), 7);
        due.is("a SHEET stays as it is", x.mark(1, 1, 0), 0);
        due.is("numbers that wait stay", x.count(9), 2);
        due.is("THE TAPE stays", x.count(10), 3);
        due.is("THE TAPE stays", x.program(0), -100);
        x.keep();
        x.sheet(0, 0);
        x.back();
        due.is("a SHEET without places", x.mark(0, 0, 0), INDEX);
        x.rock(0, 0, 0, 1, 0);
        x.tour(0, 0, 0, 0, 1);
        due.is("numbers that wait", x.check(), 1);
        x.back();
        due.is("they do not come back", x.count(9), 0);
    }

    private static void latestTour() {
        due.says("AN IMAGE keeps all but SHEETS, numbers that wait, THE TAPE");
        RockTugs x = new RockTugs();
        x.rock(0, 0, 0, 1, 0);
        x.rock(0, 0, 0, 1, 0);
        x.stock(1, 2, 5);
        x.window(0, 1, 0, 9, 0, 1);
        x.keep();
        due.is("tour", x.tour(0, 0, 0, 9, 9), 5);
        x.back();
        due.is("there was none", x.leg(0), NONE);
        due.is("there was none", x.check(), NO);
        x.tour(0, 0, 0, 9, 9);
        x.keep();
        x.tour(1, 0, 0, 9, 9);
        due.is("one without WINDOWS", x.leg(0), NONE);
        x.back();
        due.is("the one that was kept", x.leg(0), 0);
        for (int v : new int[] {0, 0, 1, 0}) x.tell(v);
        due.is("its ROWS", x.check(), 0);
    }

    private static void sheetsAtFirst() {
        due.says("SHEETS 0, 1 are rows of shorts with 0 to 40 places (WORTHS by ROCKS), or MISSING (at first).");
        for (int s = 0; s < 2; s++) {
            RockTugs x = new RockTugs();
            due.is("MISSING", x.mark(s, 0, 0), NOTHING);
            due.is("MISSING", x.lay(s), NOTHING);
            due.is("MISSING", x.copy(s, 0, s, 0, 0), NOTHING);
            due.is("SIZE", x.sheet(s, -1), RockTugs.SIZE);
            due.is("still MISSING", x.mark(s, 0, 0), NOTHING);
            due.is("BAD", x.sheet(s, 41), RockTugs.BAD);
            due.is("still MISSING", x.mark(s, 0, 0), NOTHING);
            due.is("0 places", x.sheet(s, 0), 0);
            due.is("not MISSING", x.mark(s, 0, 0), INDEX);
            due.is("not MISSING", x.lay(s), 0);
            due.is("not MISSING", x.copy(s, 0, s, 0, 0), 0);
            due.is("the other one is", x.mark(1 - s, 0, 0), NOTHING);
            due.is("40 places", x.sheet(s, 40), 40);
            for (int i = 0; i < 40; i++) due.is("all 0", x.mark(s, i, i + 1), 0);
            due.is("no more", x.mark(s, 40, 0), INDEX);
            due.is("none below", x.mark(s, -1, 0), INDEX);
            for (int i = 0; i < 40; i++) due.is("each its own", x.mark(s, i, 0), i + 1);
        }
    }

    private static void sheetsAnew() {
        due.says("A SHEET has n places, all 0: n.");
        RockTugs x = new RockTugs();
        x.sheet(0, 40);
        x.sheet(1, 40);
        for (int i = 0; i < 40; i++) {
            x.mark(0, i, 7);
            x.mark(1, i, 8);
        }
        due.is("refused", x.sheet(0, -1), RockTugs.SIZE);
        due.is("nothing is lost", x.mark(0, 39, 7), 7);
        due.is("fewer", x.sheet(0, 5), 5);
        for (int i = 0; i < 5; i++) due.is("all 0", x.mark(0, i, 9), 0);
        due.is("no more", x.mark(0, 5, 0), INDEX);
        due.is("more again", x.sheet(0, 40), 40);
        for (int i = 0; i < 40; i++) due.is("all 0", x.mark(0, i, 0), 0);
        due.is("the other one stays", x.mark(1, 39, 0), 8);
        due.is("the same number", x.sheet(1, 40), 40);
        due.is("all 0", x.mark(1, 0, 0), 0);
    }

    private static void marks() {
        due.says("A place of a SHEET becomes v (as a short): what it was.");
        int[] marks = {0, 1, -1, 32767, 32768, 65535, 65536, 65537, -32768, -32769, -65536, Integer.MAX_VALUE, Integer.MIN_VALUE, 98304};
        int[] want = {0, 1, -1, 32767, -32768, -1, 0, 1, -32768, 32767, 0, -1, 0, -32768};
        RockTugs x = new RockTugs();
        x.sheet(0, 2);
        for (int i = 0; i < marks.length; i++) {
            x.mark(0, 1, marks[i]);
            due.is("as a short " + marks[i], x.mark(0, 1, 0), want[i]);
        }
        due.is("no other place", x.mark(0, 0, 0), 0);
        x.rock(0, 0, 0, 1, 0);
        x.mark(0, 0, 65536 + 999);
        due.is("lay", x.lay(0), 1);
        due.is("WORTH as the short", x.told(0, 9), 999);
    }

    private static RockTugs two(int many, int other) {
        RockTugs x = new RockTugs();
        x.sheet(0, many);
        x.sheet(1, other);
        for (int i = 0; i < many; i++) x.mark(0, i, 100 + i);
        for (int i = 0; i < other; i++) x.mark(1, i, -100 - i);
        return x;
    }

    private static void copies() {
        due.says("INDEX (many below 0, too; many 0: not at the place behind the last one)");
        for (int place = -1; place <= 4; place++) {
            for (int at = -1; at <= 5; at++) {
                for (int many = -1; many <= 5; many++) {
                    RockTugs x = two(3, 4);
                    boolean can = many >= 0 && place >= 0 && at >= 0 && place + many <= 3 && at + many <= 4;
                    due.is("copy " + many + " from " + place + " to " + at, x.copy(0, place, 1, at, many), can ? many : INDEX);
                    for (int i = 0; i < 3; i++) due.is("the first stays", x.mark(0, i, 0), 100 + i);
                    for (int i = 0; i < 4; i++) {
                        boolean came = can && i >= at && i < at + many;
                        due.is("place " + i, x.mark(1, i, 0), came ? 100 + place + i - at : -100 - i);
                    }
                }
            }
        }
        RockTugs x = two(40, 40);
        due.is("all", x.copy(0, 0, 1, 0, 40), 40);
        for (int i = 0; i < 40; i++) due.is("came", x.mark(1, i, 0), 100 + i);
        due.is("one too many", x.copy(0, 0, 1, 0, 41), INDEX);
        due.is("none behind the last one", x.copy(0, 40, 1, 40, 0), 0);
        due.is("none further on", x.copy(0, 41, 1, 0, 0), INDEX);
        due.is("none further on", x.copy(0, 0, 1, 41, 0), INDEX);
        RockTugs empty = two(0, 0);
        due.is("none of none", empty.copy(0, 0, 1, 0, 0), 0);
        due.is("one of none", empty.copy(0, 0, 1, 0, 1), INDEX);
    }

    private static void copiesByOrder() {
        due.says("(From a SHEET, its place, to a SHEET, its place.)");
        RockTugs x = two(3, 4);
        due.is("copy", x.copy(1, 2, 0, 1, 2), 2);
        int[] want = {100, -102, -103};
        for (int i = 0; i < 3; i++) due.is("place " + i, x.mark(0, i, 0), want[i]);
        for (int i = 0; i < 4; i++) due.is("the other stays", x.mark(1, i, 0), -100 - i);
    }

    private static void copiesOfItself() {
        due.says("So many places of a SHEET come to another one (or the same), as they were: many.");
        for (int place = 0; place <= 5; place++) {
            for (int at = 0; at <= 5; at++) {
                for (int many = 0; many <= 5 - Math.max(place, at); many++) {
                    RockTugs x = two(5, 1);
                    due.is("copy", x.copy(0, place, 0, at, many), many);
                    for (int i = 0; i < 5; i++) {
                        boolean came = i >= at && i < at + many;
                        due.is("as they were", x.mark(0, i, 0), came ? 100 + place + i - at : 100 + i);
                    }
                }
            }
        }
    }

    private static void counts() {
        due.says("How many: 0 SUNS, 1 ROCKS, 2 TUGS, 3 PROGRAMS that are not empty, 4 ORDERS on their way, 5 REPORTS, 6 CLAIMS on their way, 7 CONTRACTS, 8 WINDOWS, 9 numbers that wait, 10 bytes of THE TAPE, 11 TODAY. BAD.");
        int[] most = {3, 8, 4, 4, 30, 60, 20, 8, 16, 30, 120, 30};
        RockTugs full = Skies.full();
        for (int what = 0; what < 12; what++) due.is("count " + what, full.count(what), most[what]);
        due.is("what 12", full.count(12), RockTugs.BAD);
        due.is("what -1", full.count(-1), RockTugs.BAD);
        // each by itself
        int[] one = {0, 0, 0, 0, 0, 0, 0, 0, 0, 0, 0, 0};
        RockTugs x = new RockTugs();
        one[0] = x.sun(0, 0, 0) + 1;
        counted(x, one);
        one[1] = x.rock(3, 0, 0, 1, 0) + 1;
        counted(x, one);
        one[2] = x.tug(0, 0, 0, 0) + 1;
        counted(x, one);
        one[10] = x.feed(0x77616974, 0x77616974, 0x77616974);
        counted(x, one);
        one[10] = x.trim(4);
        counted(x, one);
        one[3] = x.program(2);
        one[10] = 0;
        counted(x, one);
        one[4] = x.send(0, 2);
        counted(x, one);
        one[7] = x.contract(0, 1, 0, 9, 0) + 1;
        counted(x, one);
        x.rock(0, 0, 0, 1, 0);
        one[1] = 2;
        one[8] = x.window(0, 1, 0, 0, 0, 1) + 1;
        counted(x, one);
        one[9] = x.tell(5);
        counted(x, one);
        one[11] = x.run(1);
        one[5] = 1;
        counted(x, one);
        one[11] = x.run(1);
        one[4] = 0;
        counted(x, one);
        Due.program(x, 2, "");
        one[3] = 0;
        counted(x, one);
    }

    private static void callsOfAnObject() {
        due.says("An object is used for at most 512 calls after it has been made");
        RockTugs x = new RockTugs();
        x.rock(0, 0, 0, 1, 0);
        x.tug(0, 0, 0, 0);
        int[] forms = {0, 1, 2};
        int calls = 2;
        for (int i = 0; calls < 509; i++) {
            int form = forms[i % 3];
            if (form == 0) due.is("stock", x.stock(0, 0, i + 1), Math.max(0, i - 2));
            if (form == 1) due.is("run", x.run(1), i / 3 + 1);
            if (form == 2) due.is("keep", x.keep(), i / 3 + 1);
            calls++;
        }
        due.is("the 510th call", x.told(0, 7), 505);
        due.is("the 511th call", x.count(11), 169);
        due.is("the 512th call", x.back(), 169);
    }

    private static void counted(RockTugs x, int[] want) {
        for (int what = 0; what < 12; what++) due.is("count " + what, x.count(what), want[what]);
    }
}
