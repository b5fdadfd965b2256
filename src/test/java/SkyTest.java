/** Promises 1 to 10: a new object, suns, rocks, what is learnt of them. */
public final class SkyTest {
    private static final Due due = new Due("SkyTest");
    private static final int BAD = RockTugs.BAD, FULL = RockTugs.FULL, NO = RockTugs.NO, NONE = RockTugs.NONE;
    private static final int EDGE = 9999999;

    public static void main(String[] args) {
        newObject();
        suns();
        pull();
        pullHeldSunBySun();
        rocks();
        speeds();
        stocks();
        laid();
        kinds();
        weighed();
        due.end();
    }

    private static void newObject() {
        RockTugs x = new RockTugs();
        for (int what = 0; what <= 11; what++) due.is("new: count " + what, x.count(what), 0);
        due.is("new: rule 0", x.rule(0, 1), 1000);
        due.is("new: rule 1", x.rule(1, 1), 100);
        due.is("new: rule 2", x.rule(2, 1), 10);
        due.is("new: paid", x.paid(), 0);
        due.is("new: leg", x.leg(0), NONE);
        due.is("new: check", x.check(), NO);
        due.is("new: back", x.back(), NO);
        due.is("new: mark", x.mark(0, 0, 0), RockTugs.NOTHING);
        due.is("new: mark", x.mark(1, 0, 0), RockTugs.NOTHING);
        due.is("new: run", x.run(30), 30);
    }

    private static void suns() {
        RockTugs x = new RockTugs();
        due.is("sun beyond x", x.sun(EDGE + 1, 0, 1), BAD);
        due.is("sun beyond -x", x.sun(-EDGE - 1, 0, 1), BAD);
        due.is("sun beyond y", x.sun(0, EDGE + 1, 1), BAD);
        due.is("sun beyond -y", x.sun(0, -EDGE - 1, 1), BAD);
        due.is("sun pull below", x.sun(0, 0, -1), BAD);
        due.is("sun pull above", x.sun(0, 0, 1000), BAD);
        due.is("no sun yet", x.count(0), 0);
        due.is("sun", x.sun(EDGE, -EDGE, 0), 0);
        due.is("sun", x.sun(-EDGE, EDGE, 999), 1);
        due.is("sun", x.sun(0, 0, 5), 2);
        due.is("sun full", x.sun(0, 0, 5), FULL);
        due.is("sun full, bad first", x.sun(0, 0, 1000), BAD);
        due.is("suns", x.count(0), 3);
    }

    private static void pull() {
        RockTugs x = new RockTugs();
        x.sun(100, 0, 10);
        x.rock(0, 100, 0, 1, 0);
        x.rock(0, 0, -50, 1, 0);
        x.tug(0, 200, 0, 0);
        x.run(1);
        due.is("a sun at FAR 0 does not pull", x.told(0, 3), 0);
        // FAR 100 + 25; 10 * 1000 * 100 / 15625 = 64, 10 * 1000 * 50 / 15625 = 32
        due.is("u", x.told(1, 3), 64);
        due.is("v", x.told(1, 4), 32);
        due.is("x", x.told(1, 1), 64);
        due.is("y", x.told(1, 2), -18);
        due.is("a FREE TUG is pulled", x.has(0, 3), -100);
        due.is("and moved", x.has(0, 1), 100);
    }

    private static void pullHeldSunBySun() {
        RockTugs x = new RockTugs();
        x.sun(10, 0, 10);
        x.sun(-10, 0, 10);
        x.rock(0, 0, 0, 1, 0);
        x.speed(0, EDGE, 0);
        x.run(1);
        due.is("SPEED is held at its end by each SUN", x.told(0, 3), EDGE - 1000);
        due.is("PLACE", x.told(0, 1), EDGE - 1000);
        x.run(1);
        due.is("PLACE is held at its end", x.told(0, 1), EDGE);
        RockTugs far = new RockTugs();
        far.sun(EDGE, EDGE, 999);
        far.rock(0, -EDGE, -EDGE, 1, 0);
        far.rock(0, EDGE, EDGE - 1, 1, 0);
        far.run(1);
        due.is("so far there is no pull", far.told(0, 3), 0);
        due.is("the strongest pull", far.told(1, 4), 999000);
        due.is("held", far.told(1, 2), EDGE);
    }

    private static void rocks() {
        RockTugs x = new RockTugs();
        due.is("kind", x.rock(-1, 0, 0, 1, 0), BAD);
        due.is("kind", x.rock(4, 0, 0, 1, 0), BAD);
        due.is("x", x.rock(0, EDGE + 1, 0, 1, 0), BAD);
        due.is("y", x.rock(0, 0, -EDGE - 1, 1, 0), BAD);
        due.is("tons", x.rock(0, 0, 0, 0, 0), BAD);
        due.is("tons", x.rock(0, 0, 0, 100000, 0), BAD);
        due.is("spin", x.rock(0, 0, 0, 1, 100), BAD);
        due.is("spin", x.rock(0, 0, 0, 1, -100), BAD);
        due.is("rock", x.rock(3, EDGE, -EDGE, 99999, -99), 0);
        int[] want = {3, EDGE, -EDGE, 0, 0, 99999, -99, 0, 0, 0, NONE, 0, 0};
        for (int what = 0; what < 13; what++) due.is("told " + what, x.told(0, what), want[what]);
        due.is("told", x.told(0, -1), BAD);
        due.is("told", x.told(0, 13), BAD);
        due.is("told", x.told(1, 0), BAD);
        due.is("told", x.told(-1, 0), BAD);
        for (int i = 1; i < 8; i++) due.is("rock", x.rock(0, i, 0, 1, 99), i);
        due.is("rock full", x.rock(0, 0, 0, 1, 0), FULL);
        due.is("rock full, bad first", x.rock(9, 0, 0, 1, 0), BAD);
        due.is("rocks", x.count(1), 8);
    }

    private static void speeds() {
        RockTugs x = new RockTugs();
        x.rock(0, 0, 0, 7, 0);
        x.tug(0, 0, 0, 9);
        x.moor(0, 0);
        Due.order(x, 0, "burn 1, 0-1");
        x.run(1);
        due.is("REST", x.told(0, 11), 6);
        due.is("speed", x.speed(0, EDGE, -EDGE), 0);
        due.is("u", x.told(0, 3), EDGE);
        due.is("v", x.told(0, 4), -EDGE);
        due.is("REST stays", x.told(0, 11), 6);
        due.is("REST stays", x.told(0, 12), -6);
        due.is("speed u", x.speed(0, EDGE + 1, 0), BAD);
        due.is("speed v", x.speed(0, 0, -EDGE - 1), BAD);
        due.is("speed rock", x.speed(1, 0, 0), BAD);
        due.is("speed rock", x.speed(-1, 0, 0), BAD);
        due.is("it stays", x.told(0, 3), EDGE);
    }

    private static void stocks() {
        RockTugs x = new RockTugs();
        x.rock(0, 0, 0, 7, 0);
        due.is("water", x.stock(0, 0, 9999), 0);
        due.is("metal", x.stock(0, 1, 9998), 0);
        due.is("worth", x.stock(0, 2, 999), 0);
        due.is("water was", x.stock(0, 0, 1), 9999);
        due.is("metal was", x.stock(0, 1, 2), 9998);
        due.is("worth was", x.stock(0, 2, 3), 999);
        due.is("told water", x.told(0, 7), 1);
        due.is("told metal", x.told(0, 8), 2);
        due.is("told worth", x.told(0, 9), 3);
        due.is("above", x.stock(0, 0, 10000), BAD);
        due.is("above", x.stock(0, 1, 10000), BAD);
        due.is("above", x.stock(0, 2, 1000), BAD);
        due.is("below", x.stock(0, 2, -1), BAD);
        due.is("what", x.stock(0, 3, 0), BAD);
        due.is("what", x.stock(0, -1, 0), BAD);
        due.is("rock", x.stock(1, 0, 0), BAD);
        due.is("rock", x.stock(-1, 0, 0), BAD);
    }

    private static void laid() {
        RockTugs x = new RockTugs();
        due.is("lay sheet", x.lay(-1), BAD);
        due.is("lay sheet", x.lay(2), BAD);
        due.is("lay missing", x.lay(1), RockTugs.NOTHING);
        x.sheet(1, 3);
        x.mark(1, 0, 999);
        x.mark(1, 1, 1000);
        x.mark(1, 2, -1);
        due.is("lay without rocks", x.lay(1), 0);
        for (int i = 0; i < 4; i++) {
            x.rock(0, 0, 0, 1, 0);
            x.stock(i, 2, 7);
        }
        due.is("lay", x.lay(1), 3);
        due.is("worth 0", x.told(0, 9), 999);
        due.is("worth 1", x.told(1, 9), 0);
        due.is("worth 2", x.told(2, 9), 0);
        due.is("worth 3 stays", x.told(3, 9), 7);
        x.sheet(0, 40);
        due.is("lay a longer one", x.lay(0), 4);
        due.is("worth 3", x.told(3, 9), 0);
        x.sheet(0, 0);
        due.is("lay an empty one", x.lay(0), 0);
    }

    private static void kinds() {
        RockTugs x = new RockTugs();
        int[][] want = {{1, 0, 0, 0}, {1, 1, 0, 0}, {1, 0, 1, 0}, {1, 0, 1, 1}};
        for (int kind = 0; kind < 4; kind++) {
            x.rock(kind, 0, 0, 1, 0);
            x.tug(kind, 0, 0, 0);
            for (int of = 0; of < 4; of++) {
                due.is("rock " + kind + " isOf " + of, x.isOf(kind, of), want[kind][of]);
                due.is("tug " + kind + " is " + of, x.is(kind, of), want[kind][of]);
            }
        }
        due.is("isOf kind", x.isOf(0, 4), BAD);
        due.is("isOf kind", x.isOf(0, -1), BAD);
        due.is("isOf rock", x.isOf(4, 0), BAD);
        due.is("isOf rock", x.isOf(-1, 0), BAD);
        due.is("is kind", x.is(0, 4), BAD);
        due.is("is kind", x.is(0, -1), BAD);
        due.is("is tug", x.is(4, 0), BAD);
        due.is("is tug", x.is(-1, 0), BAD);
    }

    private static void weighed() {
        RockTugs x = new RockTugs();
        x.rock(0, 0, 0, 50, 0);
        due.is("learnt low", x.learnt(0, 0), 1);
        due.is("learnt high", x.learnt(0, 1), 99999);
        due.is("low", x.weigh(0, 0, 60), BAD);
        due.is("high", x.weigh(0, 1, 100000), BAD);
        due.is("low above high", x.weigh(0, 60, 40), BAD);
        due.is("rock", x.weigh(1, 1, 60), BAD);
        due.is("not low", x.weigh(0, 51, 60), NO);
        due.is("not high", x.weigh(0, 40, 49), NO);
        due.is("nothing learnt", x.learnt(0, 1), 99999);
        due.is("all", x.weigh(0, 1, 99999), 99999);
        due.is("narrower", x.weigh(0, 40, 60), 21);
        due.is("wider learns nothing", x.weigh(0, 30, 70), 21);
        due.is("one end", x.weigh(0, 30, 50), 11);
        due.is("learnt low", x.learnt(0, 0), 40);
        due.is("learnt high", x.learnt(0, 1), 50);
        due.is("to the ton", x.weigh(0, 50, 50), 1);
        due.is("learnt end", x.learnt(0, 2), BAD);
        due.is("learnt end", x.learnt(0, -1), BAD);
        due.is("learnt rock", x.learnt(1, 0), BAD);
    }
}
