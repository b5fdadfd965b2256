/** What is full, what is missing, and, where several refusals of a call meet, which one is answered. */
public final class RefusalEdgeTest {
    private static final Due due = new Due("RefusalEdgeTest");
    private static final Edges edges = new Edges(due);
    private static final int BAD = RockTugs.BAD, NO = RockTugs.NO, FULL = RockTugs.FULL, SPENT = RockTugs.SPENT, NONE = RockTugs.NONE;
    private static final int NOTHING = RockTugs.NOTHING, INDEX = RockTugs.INDEX, SIZE = RockTugs.SIZE;

    public static void main(String[] args) {
        fullSkies();
        lastThatIsTaken();
        emptySkies();
        weigh();
        moor();
        tape();
        programs();
        orders();
        days();
        nothingKnown();
        contracts();
        tours();
        waitingNumbers();
        images();
        sheets();
        copies();
        due.end();
    }

    /** Of both BAD is answered, as it stands first. */
    private static void fullSkies() {
        due.says("A call that is refused answers one of BAD, NO, FULL, SPENT, or a FINDING, of several the one that stands first with it, and changes nothing (but the tape and the numbers that wait, where told).");
        edges.refused(FULL, Skies::full, "sun", 0, 0, 0);
        edges.refused(BAD, Skies::full, "sun", 0, 0, 1000);
        edges.refused(BAD, Skies::full, "sun", Skies.EDGE + 1, 0, 0);
        due.says("One more ROCK, with SPEED 0 and empty STOCKS: its number. BAD; FULL.");
        edges.refused(FULL, Skies::full, "rock", 0, 0, 0, 1, 0);
        edges.refused(BAD, Skies::full, "rock", 4, 0, 0, 1, 0);
        edges.refused(BAD, Skies::full, "rock", 0, 0, 0, 0, 0);
        edges.refused(BAD, Skies::full, "rock", 0, 0, 0, 1, 100);
        due.says("One more TUG, FREE at a PLACE, with SPEED 0: its number. BAD; FULL.");
        edges.refused(FULL, Skies::full, "tug", 0, 0, 0, 0);
        edges.refused(BAD, Skies::full, "tug", -1, 0, 0, 0);
        edges.refused(BAD, Skies::full, "tug", 0, 0, 0, 1000);
        due.says("BAD: rocks (the same, too), open, close (open not above it), fuel, days; FULL.");
        edges.refused(FULL, Skies::full, "window", 0, 1, 0, 0, 0, 1);
        edges.refused(BAD, Skies::full, "window", 0, 0, 0, 0, 0, 1);
        edges.refused(BAD, Skies::full, "window", 0, 1, 1, 0, 0, 1);
        edges.refused(BAD, Skies::full, "window", 0, 1, 0, 0, 0, 0);
    }

    /** The last of all that may be is taken, the next one is not. */
    private static void lastThatIsTaken() {
        RockTugs x = new RockTugs();
        due.says("SUNS, 3 at most");
        for (int i = 0; i < 3; i++) due.is("sun", x.sun(i, i, i), i);
        due.is("a fourth sun", x.sun(0, 0, 0), FULL);
        due.is("SUNS", x.count(0), 3);
        due.says("ROCKS, 8 at most, numbered from 0");
        for (int i = 0; i < 8; i++) due.is("rock", x.rock(3, i, i, 1, 0), i);
        due.is("a ninth rock", x.rock(0, 0, 0, 1, 0), FULL);
        due.is("ROCKS", x.count(1), 8);
        due.says("TUGS, 4 at most, numbered from 0");
        for (int i = 0; i < 4; i++) due.is("tug", x.tug(i, i, i, 0), i);
        due.is("a fifth tug", x.tug(0, 0, 0, 0), FULL);
        due.is("TUGS", x.count(2), 4);
        due.says("One more CONTRACT: its number.");
        for (int i = 0; i < 8; i++) due.is("contract", x.contract(0, 1, i, 0, 0), i);
        due.says("CONTRACTS, 8 at most");
        due.is("a ninth contract", x.contract(0, 1, 0, 0, 0), FULL);
        due.is("CONTRACTS", x.count(7), 8);
        due.says("One more WINDOW: its number.");
        for (int i = 0; i < 16; i++) due.is("window", x.window(0, 1, 0, 0, 0, 1), i);
        due.says("WINDOWS, 16 at most, numbered from 0");
        due.is("a window too many", x.window(0, 1, 0, 0, 0, 1), FULL);
        due.is("WINDOWS", x.count(8), 16);
        due.says("One more number waits: how many. FULL: 30 wait.");
        for (int i = 1; i <= 30; i++) due.is("tell", x.tell(i), i);
        due.is("a number too many", x.tell(31), FULL);
        due.is("numbers that wait", x.count(9), 30);
    }

    /** Where there is none, none can be named. */
    private static void emptySkies() {
        due.says("An empty SKY.");
        for (int what = 0; what < 12; what++) due.is("count " + what, new RockTugs().count(what), 0);
        for (int i = -1; i < 9; i++) {
            RockTugs x = new RockTugs();
            due.is("speed", x.speed(i, 0, 0), BAD);
            due.is("stock", x.stock(i, 0, 0), BAD);
            due.is("told", x.told(i, 0), BAD);
            due.is("isOf", x.isOf(i, 0), BAD);
            due.is("weigh", x.weigh(i, 1, 1), BAD);
            due.is("learnt", x.learnt(i, 0), BAD);
            due.is("is", x.is(i, 0), BAD);
            due.is("moor", x.moor(i, 0), BAD);
            due.is("dark", x.dark(i, 0), BAD);
            due.is("has", x.has(i, 0), BAD);
            due.is("send", x.send(i, 0), BAD);
            due.is("known", x.known(i, 0), BAD);
            due.is("patch", x.patch(i, 0), BAD);
            due.is("miss", x.miss(i, i + 1, 0, 0), BAD);
            due.is("miss", x.miss(10 + i, 11 + i, 0, 0), BAD);
            due.is("contract", x.contract(0, 1, i, 0, 0), BAD);
            due.is("about", x.about(i, 0), BAD);
            due.is("window", x.window(i, i + 1, 0, 0, 0, 1), BAD);
            due.is("tour", x.tour(i, 0, 0, 0, 1), BAD);
        }
        RockTugs x = new RockTugs();
        due.is("paid", x.paid(), 0);
        due.is("shut", x.shut(), 0);
        due.is("keep", x.keep(), 0);
        due.is("back", x.back(), 0);
        due.is("run", x.run(30), 30);
        due.is("back", x.back(), 0);
        due.is("TODAY", x.count(11), 0);
    }

    private static RockTugs rockOf(int tons) {
        RockTugs x = new RockTugs();
        x.rock(0, 0, 0, tons, 0);
        return x;
    }

    private static void weigh() {
        due.says("A ROCK is WEIGHED: how many TONS are LEARNT as possible then. BAD: rock, low, high (1 .. 99999, low not above high); NO: TONS are not low .. high.");
        for (int tons : new int[] {1, 50, 99999}) {
            due.is("all of it", rockOf(tons).weigh(0, 1, 99999), 99999);
            due.is("to the ton", rockOf(tons).weigh(0, tons, tons), 1);
            due.is("down to it", rockOf(tons).weigh(0, tons, 99999), 100000 - tons);
            due.is("up to it", rockOf(tons).weigh(0, 1, tons), tons);
        }
        edges.refused(NO, () -> rockOf(50), "weigh", 0, 51, 99999);
        edges.refused(NO, () -> rockOf(50), "weigh", 0, 1, 49);
        edges.refused(NO, () -> rockOf(1), "weigh", 0, 2, 2);
        edges.refused(NO, () -> rockOf(99999), "weigh", 0, 99998, 99998);
        edges.refused(BAD, () -> rockOf(50), "weigh", 0, 50, 49);
        edges.refused(BAD, () -> rockOf(50), "weigh", 0, 51, 49);
        edges.refused(BAD, () -> rockOf(50), "weigh", 0, 0, 49);
        edges.refused(BAD, () -> rockOf(50), "weigh", 0, 51, 100000);
        edges.refused(BAD, () -> rockOf(50), "weigh", 0, 100000, 100000);
        edges.refused(BAD, () -> rockOf(50), "weigh", 0, 0, 0);
        due.says("WEIGHED is a ROCK as low .. high: LEARNT is 1 .. 99999 at first, then what it was and low .. high have in common.");
        RockTugs x = rockOf(50);
        due.is("low at first", x.learnt(0, 0), 1);
        due.is("high at first", x.learnt(0, 1), 99999);
        due.is("narrower above", x.weigh(0, 1, 60), 60);
        due.is("narrower below", x.weigh(0, 40, 70), 21);
        due.is("NO learns nothing", x.weigh(0, 51, 55), NO);
        due.is("wider at both ends", x.weigh(0, 39, 61), 21);
        due.is("the same", x.weigh(0, 40, 60), 21);
        due.is("one less above", x.weigh(0, 40, 59), 20);
        due.is("one less below", x.weigh(0, 41, 59), 19);
        due.is("low", x.learnt(0, 0), 41);
        due.is("high", x.learnt(0, 1), 59);
    }

    /** ROCK 0 has TUG 0, the STATION 1 has TUG 1; TUG 2 is FREE. */
    private static RockTugs berths() {
        RockTugs x = new RockTugs();
        x.rock(2, 0, 0, 1, 99);
        x.rock(3, Skies.EDGE, 0, 1, -99);
        x.rock(1, 0, 0, 1, 0);
        for (int i = 0; i < 3; i++) x.tug(0, 0, 0, 0);
        x.moor(0, 0);
        x.moor(1, 1);
        return x;
    }

    private static void moor() {
        due.says("A FREE TUG is DOCKED at a ROCK, wherever it is: 1. BAD; NO: it is DOCKED, or another one is there (a STATION aside).");
        for (int rock = 0; rock < 3; rock++) {
            edges.refused(NO, RefusalEdgeTest::berths, "moor", 0, rock);
            edges.refused(NO, RefusalEdgeTest::berths, "moor", 1, rock);
        }
        edges.refused(NO, RefusalEdgeTest::berths, "moor", 2, 0);
        edges.refused(BAD, RefusalEdgeTest::berths, "moor", 0, 3);
        edges.refused(BAD, RefusalEdgeTest::berths, "moor", 3, 0);
        RockTugs x = berths();
        due.is("a STATION aside", x.moor(2, 1), 1);
        due.is("DOCKED", x.has(2, 9), 1);
        due.is("far away", x.has(2, 1), Skies.EDGE);
        due.is("an empty one", berths().moor(2, 2), 1);
        RockTugs left = berths();
        Due.order(left, 0, "free");
        left.run(1);
        due.is("the one that was there is gone", left.moor(2, 0), 1);
    }

    private static RockTugs taped(int bytes) {
        RockTugs x = new RockTugs();
        Due.write(x, "wait ".repeat(24).substring(0, bytes));
        return x;
    }

    private static void tape() {
        due.says("Twelve bytes come to THE TAPE, the highest of each number first: how many it has. FULL: it would have more than 120.");
        for (int bytes : new int[] {0, 1, 107, 108}) due.is("feed to " + bytes, taped(bytes).feed(0, 0, 0), bytes + 12);
        for (int bytes : new int[] {109, 119, 120}) edges.refused(FULL, () -> taped(bytes), "feed", 0, 0, 0);
        due.says("THE TAPE keeps its first n bytes: n. BAD (n above how many it has, too).");
        for (int bytes : new int[] {0, 1, 119, 120}) {
            edges.refused(BAD, () -> taped(bytes), "trim", bytes + 1);
            edges.refused(BAD, () -> taped(bytes), "trim", -1);
            due.is("trim to all", taped(bytes).trim(bytes), bytes);
            due.is("trim to none", taped(bytes).trim(0), 0);
        }
        RockTugs x = taped(10);
        due.is("first nine", x.trim(9), 9);
        due.is("program", x.program(0), 2);
        RockTugs y = taped(10);
        y.trim(8);
        due.is("first eight", y.program(0), -105);
    }

    private static RockTugs emptied() {
        RockTugs x = Skies.busy();
        x.trim(0);
        return x;
    }

    private static void programs() {
        due.says("BAD: program (asked first; THE TAPE is used up, too)");
        for (int program : new int[] {-1, 4, Integer.MIN_VALUE, Integer.MAX_VALUE}) {
            due.is("program " + program, Skies.busy().program(program), BAD);
            edges.same("but for THE TAPE it changes nothing", () -> {
                RockTugs x = Skies.busy();
                x.program(program);
                return x;
            }, RefusalEdgeTest::emptied);
            due.is("BAD ahead of a fault", new RockTugs().program(program), BAD);
        }
        due.says("-100 less the place of its fault: it is empty then. (TUGS that run it have none any more, by both.)");
        for (int program = 0; program < 4; program++) {
            RockTugs x = Skies.full();
            due.is("runs " + program, x.has(program, 10), program);
            x.trim(4);
            due.is("a program", x.program(program), 1);
            for (int tug = 0; tug < 4; tug++) due.is("tug " + tug, x.has(tug, 10), tug == program ? NONE : tug);
            due.is("all have S", x.count(3), 4);
            due.is("THE TAPE is used up", x.count(10), 0);
            RockTugs y = Skies.full();
            y.trim(3);
            due.is("a fault", y.program(program), -100);
            for (int tug = 0; tug < 4; tug++) due.is("tug " + tug, y.has(tug, 10), tug == program ? NONE : tug);
            due.is("it is empty", y.count(3), 3);
            due.is("ORDERS stay on their way", y.count(4), 30);
            due.is("THE TAPE is used up", y.count(10), 0);
        }
    }

    private static RockTugs ordered(int many) {
        RockTugs x = new RockTugs();
        x.tug(0, 0, 0, 0);
        Due.program(x, 0, "wait");
        for (int i = 0; i < many; i++) x.send(0, 0);
        return x;
    }

    private static void orders() {
        due.says("BAD; NO: the PROGRAM is empty; FULL.");
        due.is("the 30th", ordered(29).send(0, 0), 1);
        edges.refused(FULL, () -> ordered(30), "send", 0, 0);
        edges.refused(NO, () -> ordered(30), "send", 0, 1);
        edges.refused(NO, () -> ordered(0), "send", 0, 3);
        edges.refused(BAD, () -> ordered(30), "send", 1, 0);
        edges.refused(BAD, () -> ordered(30), "send", 0, 4);
        edges.refused(BAD, () -> ordered(30), "send", 1, 1);
        edges.refused(FULL, Skies::full, "send", 0, 0);
        edges.refused(BAD, Skies::full, "send", 4, 0);
    }

    private static RockTugs onDay(int today) {
        RockTugs x = new RockTugs();
        x.rock(3, 0, 0, 1, 0);
        while (x.count(11) < today) x.run(Math.min(30, today - x.count(11)));
        return x;
    }

    private static void days() {
        due.says("n (1 .. 30) DAYS go by: TODAY. BAD; FULL: it would be above 3000.");
        due.is("up to 3000", onDay(2970).run(30), 3000);
        edges.refused(FULL, () -> onDay(2971), "run", 30);
        due.is("up to 3000", onDay(2971).run(29), 3000);
        due.is("up to 3000", onDay(2999).run(1), 3000);
        edges.refused(FULL, () -> onDay(2999), "run", 2);
        edges.refused(FULL, Skies::late, "run", 1);
        edges.refused(FULL, Skies::late, "run", 30);
        edges.refused(BAD, Skies::late, "run", 0);
        edges.refused(BAD, Skies::late, "run", 31);
        edges.refused(BAD, Skies::late, "run", Integer.MAX_VALUE);
    }

    private static RockTugs darkOne() {
        RockTugs x = new RockTugs();
        x.tug(0, 0, 0, 0);
        x.dark(0, 1);
        x.run(5);
        return x;
    }

    private static void nothingKnown() {
        due.says("4 FUEL, 5 the DAY. BAD; NONE: no REPORT came.");
        for (int what = 0; what < 6; what++) due.is("known " + what, darkOne().known(0, what), NONE);
        edges.refused(BAD, RefusalEdgeTest::darkOne, "known", 0, 6);
        edges.refused(BAD, RefusalEdgeTest::darkOne, "known", 0, -1);
        edges.refused(BAD, RefusalEdgeTest::darkOne, "known", 1, 0);
        due.says("4 whether it holds the TUG as it is now (1, 0). BAD; NONE: no REPORT came.");
        for (int what = 0; what < 5; what++) due.is("patch " + what, darkOne().patch(0, what), NONE);
        edges.refused(BAD, RefusalEdgeTest::darkOne, "patch", 0, 5);
        edges.refused(BAD, RefusalEdgeTest::darkOne, "patch", 0, -1);
        edges.refused(BAD, RefusalEdgeTest::darkOne, "patch", 1, 0);
    }

    private static void contracts() {
        due.says("BAD: what (0, 1), tons, rock, day (TODAY .. 3000), pay; NO: the ROCK is no STATION; FULL.");
        edges.refused(FULL, Skies::full, "contract", 0, 1, 3, 30, 0);
        for (int rock = 0; rock < 3; rock++) edges.refused(NO, Skies::full, "contract", 0, 1, rock, 30, 0);
        for (int rock : new int[] {0, 3}) {
            edges.refused(BAD, Skies::full, "contract", 2, 1, rock, 30, 0);
            edges.refused(BAD, Skies::full, "contract", 0, 0, rock, 30, 0);
            edges.refused(BAD, Skies::full, "contract", 0, 1, rock, 29, 0);
            edges.refused(BAD, Skies::full, "contract", 0, 1, rock, 3001, 0);
            edges.refused(BAD, Skies::full, "contract", 0, 1, rock, 30, 10000);
        }
        edges.refused(BAD, Skies::full, "contract", 0, 1, 8, 30, 0);
        edges.refused(NO, Skies::busy, "contract", 0, 1, 0, 14, 0);
        edges.refused(NO, Skies::busy, "contract", 0, 1, 2, 14, 0);
        due.is("on the last DAY", Skies.late().contract(0, 1, 0, 3000, 0), 0);
        edges.refused(BAD, Skies::late, "contract", 0, 1, 0, 2999, 0);
    }

    private static void tours() {
        due.says("BAD; SPENT (the latest TOUR stays).");
        edges.refused(SPENT, Skies::busy, "tour", 0, 0, 20, 100, 1);
        edges.refused(SPENT, Skies::full, "tour", 0, 0, 0, 200, 125);
        due.is("just enough", Skies.full().tour(0, 0, 0, 200, 126), 54);
        edges.refused(BAD, Skies::full, "tour", 8, 0, 0, 200, 1);
        edges.refused(BAD, Skies::full, "tour", 0, 0, 0, 2001, 1);
        edges.refused(BAD, Skies::full, "tour", 0, 0, 1000, 200, 1);
    }

    private static void waitingNumbers() {
        due.says("FULL: 30 wait.");
        edges.refused(FULL, Skies::full, "tell", 5);
        due.says("The numbers that wait (none do then, with NO, too)");
        RockTugs x = new RockTugs();
        due.says("NO: there was no TOUR.");
        due.is("NO without numbers", x.check(), NO);
        for (int i = 0; i < 30; i++) x.tell(0);
        due.is("NO", x.check(), NO);
        due.is("none waits", x.count(9), 0);
        edges.same("but for them NO changes nothing", () -> {
            RockTugs y = new RockTugs();
            y.rock(0, 0, 0, 1, 0);
            y.tell(7);
            y.check();
            return y;
        }, () -> rockOf(1));
    }

    private static void images() {
        due.says("All is as THE IMAGE: TODAY. NO: there is none.");
        edges.refused(NO, Skies::late, "back");
        edges.refused(NO, Skies::empty, "back");
    }

    private static void sheets() {
        due.says("FINDINGS: NOTHING: a SHEET is MISSING; INDEX: there is no such place; SIZE: a number of places is below 0.");
        edges.refused(BAD, Skies::full, "sheet", 2, -1);
        edges.refused(BAD, Skies::full, "sheet", -1, -1);
        edges.refused(BAD, Skies::full, "sheet", 2, 41);
        edges.refused(SIZE, Skies::full, "sheet", 1, -1);
        edges.refused(SIZE, Skies::empty, "sheet", 1, -1);
        due.says("BAD: sheet; NOTHING; INDEX.");
        edges.refused(NOTHING, Skies::busy, "mark", 1, 0, 5);
        edges.refused(NOTHING, Skies::busy, "mark", 1, -1, 5);
        edges.refused(NOTHING, Skies::busy, "mark", 1, 40, 5);
        edges.refused(BAD, Skies::busy, "mark", 2, 0, 5);
        edges.refused(BAD, Skies::busy, "mark", -1, -1, 5);
        due.says("how many. BAD; NOTHING.");
        edges.refused(NOTHING, Skies::busy, "lay", 1);
        edges.refused(NOTHING, Skies::empty, "lay", 0);
        edges.refused(BAD, Skies::empty, "lay", 2);
    }

    private static void copies() {
        due.says("BAD; NOTHING; INDEX (many below 0, too; many 0: not at the place behind the last one).");
        edges.refused(BAD, Skies::busy, "copy", 2, 0, 1, 0, 1);
        edges.refused(BAD, Skies::busy, "copy", 1, 0, 2, 0, 1);
        edges.refused(BAD, Skies::busy, "copy", -1, -1, 0, 0, -1);
        edges.refused(BAD, Skies::busy, "copy", 0, -1, -1, 0, -1);
        edges.refused(NOTHING, Skies::busy, "copy", 0, 0, 1, 0, 1);
        edges.refused(NOTHING, Skies::busy, "copy", 1, 0, 0, 0, 1);
        edges.refused(NOTHING, Skies::busy, "copy", 1, 0, 1, 0, 0);
        edges.refused(NOTHING, Skies::busy, "copy", 0, -1, 1, 0, -1);
        edges.refused(NOTHING, Skies::busy, "copy", 1, 0, 0, 9, 1);
        edges.refused(INDEX, Skies::busy, "copy", 0, 0, 0, 0, -1);
        edges.refused(INDEX, Skies::busy, "copy", 0, 0, 0, 0, Integer.MIN_VALUE);
        edges.refused(INDEX, Skies::busy, "copy", 0, 0, 0, 0, 6);
        edges.refused(INDEX, Skies::busy, "copy", 0, 0, 0, 0, Integer.MAX_VALUE);
        edges.refused(INDEX, Skies::busy, "copy", 0, 1, 0, 0, 5);
        edges.refused(INDEX, Skies::busy, "copy", 0, 0, 0, 1, 5);
        edges.refused(INDEX, Skies::busy, "copy", 0, -1, 0, 0, 1);
        edges.refused(INDEX, Skies::busy, "copy", 0, 0, 0, -1, 1);
        edges.refused(INDEX, Skies::busy, "copy", 0, -1, 0, 0, 0);
        edges.refused(INDEX, Skies::busy, "copy", 0, 0, 0, -1, 0);
        edges.refused(INDEX, Skies::busy, "copy", 0, 6, 0, 0, 0);
        edges.refused(INDEX, Skies::busy, "copy", 0, 0, 0, 6, 0);
        edges.refused(INDEX, Skies::busy, "copy", 0, 5, 0, 0, 1);
        edges.refused(INDEX, Skies::busy, "copy", 0, 0, 0, 5, 1);
        edges.refused(INDEX, Skies::busy, "copy", 0, Integer.MAX_VALUE, 0, 0, 1);
        edges.refused(INDEX, Skies::busy, "copy", 0, 0, 0, Integer.MAX_VALUE, Integer.MAX_VALUE);
        edges.refused(INDEX, Skies::busy, "copy", 0, Integer.MIN_VALUE, 0, 0, Integer.MAX_VALUE);
        int[][] taken = {{0, 5, 0, 0, 0}, {0, 0, 0, 5, 0}, {0, 5, 0, 5, 0}, {0, 0, 0, 0, 5}, {0, 4, 0, 0, 1}, {0, 0, 0, 4, 1}, {0, 0, 0, 0, 0}};
        for (int[] a : taken) due.is("copy", Skies.call(Skies.busy(), "copy", a), a[4]);
        edges.same("none copied changes nothing", () -> {
            RockTugs x = Skies.busy();
            x.copy(0, 5, 0, 0, 0);
            return x;
        }, Skies::busy);
    }
}
