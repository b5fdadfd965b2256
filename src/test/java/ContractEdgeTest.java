/** Contracts at their edges: what is given, MET, VOID, OPEN, paid; promises 25 to 27. */
public final class ContractEdgeTest {
    private static final Due due = new Due("ContractEdgeTest");
    private static final int NONE = RockTugs.NONE;

    public static void main(String[] args) {
        atFirst();
        asFarAsEachLacks();
        byNumber();
        ofThisStation();
        forIt();
        bothInOneDay();
        lastDay();
        metOnes();
        bitByBit();
        stockFull();
        notHere();
        paid();
        due.end();
    }

    /** A HAULER at the STATION 0 with so much WATER and METAL; it gives on DAYS 21 and 22. */
    private static RockTugs laden(int water, int metal) {
        RockTugs x = new RockTugs();
        x.rock(3, 0, 0, 5, 0);
        x.rock(1, 0, 0, 5, 0);
        x.rock(2, 0, 0, 5, 0);
        x.rock(3, 0, 0, 5, 0);
        x.stock(1, 0, water);
        x.stock(2, 1, metal);
        x.tug(1, 0, 0, 0);
        Due.program(x, 0, "while w<" + water + "{dig}free until t>10 while m<" + metal + "{dig}free until t>20 give give aim 7");
        x.moor(0, 1);
        x.send(0, 0);
        x.run(11);
        x.moor(0, 2);
        x.run(10);
        x.moor(0, 0);
        due.is("WATER", x.has(0, 6), water);
        due.is("METAL", x.has(0, 7), metal);
        due.is("TODAY", x.count(11), 21);
        return x;
    }

    private static void contract(RockTugs x, int number, int got, int met, int open) {
        due.is("tons of " + number, x.about(number, 0), got);
        due.is("MET of " + number, x.about(number, 1), met);
        due.is("OPEN of " + number, x.about(number, 2), open);
    }

    private static void atFirst() {
        due.says("for WATER (0) or METAL (1), TONS 1 .. 999, at a STATION, up to a DAY (MET on it is well), a PAY 0 .. 9999.");
        RockTugs x = new RockTugs();
        x.rock(3, 0, 0, 1, 0);
        int[][] made = {{0, 1, 0, 0, 0}, {1, 999, 0, 3000, 9999}};
        for (int i = 0; i < 2; i++) {
            due.is("number", Skies.call(x, "contract", made[i]), i);
            contract(x, i, 0, NONE, 1);
        }
        due.is("paid", x.paid(), 0);
        RockTugs none = new RockTugs();
        due.is("none", none.about(0, 0), RockTugs.BAD);
    }

    private static void asFarAsEachLacks() {
        due.says("by number, as far as each lacks tons; what is left to the STATION's STOCK");
        for (int what = 0; what < 2; what++) {
            for (int tons : new int[] {1, 19, 20, 21, 999}) {
                RockTugs x = laden(what == 0 ? 20 : 0, what == 1 ? 20 : 0);
                x.contract(what, tons, 0, 3000, 7);
                x.run(1);
                int got = Math.min(20, tons);
                contract(x, 0, got, got == tons ? 21 : NONE, got == tons ? 0 : 1);
                due.is("STOCK", x.told(0, 7 + what), 20 - got);
                due.is("nothing of the other", x.told(0, 8 - what), 0);
                due.is("hold", x.has(0, 6 + what), 0);
                due.is("paid", x.paid(), got == tons ? 7 : 0);
                due.is("it takes the DAY", x.has(0, 11), 0);
            }
        }
        RockTugs empty = laden(0, 0);
        empty.contract(0, 1, 0, 3000, 7);
        empty.run(2);
        contract(empty, 0, 0, NONE, 1);
        due.is("STOCK", empty.told(0, 7), 0);
    }

    private static void byNumber() {
        due.says("goes to CONTRACTS of this STATION for it that are OPEN, by number");
        int[][] rows = {{20, 1, 20, 0}, {19, 1, 19, 1}, {21, 1, 20, 0}, {10, 10, 10, 10}, {10, 11, 10, 10}, {1, 19, 1, 19}};
        for (int[] row : rows) {
            RockTugs x = laden(20, 0);
            x.contract(0, row[0], 0, 3000, 1);
            x.contract(0, row[1], 0, 3000, 2);
            x.run(1);
            due.is("the first", x.about(0, 0), row[2]);
            due.is("the second", x.about(1, 0), row[3]);
            due.is("STOCK", x.told(0, 7), 20 - row[2] - row[3]);
        }
        RockTugs all = laden(20, 0);
        for (int i = 0; i < 8; i++) all.contract(0, 2, 0, 3000, 1 << i);
        all.run(1);
        for (int i = 0; i < 8; i++) contract(all, i, 2, 21, 0);
        due.is("paid", all.paid(), 255);
        due.is("STOCK", all.told(0, 7), 4);
    }

    private static void ofThisStation() {
        due.says("CONTRACTS of this STATION");
        RockTugs x = laden(20, 0);
        x.contract(0, 5, 3, 3000, 1);
        x.contract(0, 5, 0, 3000, 2);
        x.run(1);
        contract(x, 0, 0, NONE, 1);
        contract(x, 1, 5, 21, 0);
        due.is("STOCK", x.told(0, 7), 15);
        due.is("STOCK of the other", x.told(3, 7), 0);
    }

    private static void forIt() {
        due.says("all WATER, then all METAL goes to CONTRACTS of this STATION for it");
        RockTugs x = laden(20, 0);
        x.contract(1, 5, 0, 3000, 1);
        x.run(1);
        contract(x, 0, 0, NONE, 1);
        due.is("STOCK", x.told(0, 7), 20);
        RockTugs y = laden(0, 20);
        y.contract(0, 5, 0, 3000, 1);
        y.run(1);
        contract(y, 0, 0, NONE, 1);
        due.is("STOCK", y.told(0, 8), 20);
    }

    private static void bothInOneDay() {
        due.says("give: DOCKED at a STATION: all WATER, then all METAL");
        RockTugs x = laden(20, 15);
        x.contract(1, 15, 0, 3000, 1);
        x.contract(0, 20, 0, 3000, 2);
        x.run(1);
        contract(x, 0, 15, 21, 0);
        contract(x, 1, 20, 21, 0);
        due.is("paid", x.paid(), 3);
        due.is("nothing is left", x.told(0, 7) + x.told(0, 8) + x.has(0, 6) + x.has(0, 7), 0);
    }

    private static void lastDay() {
        due.says("up to a DAY (MET on it is well)");
        RockTugs x = laden(20, 0);
        due.is("a DAY that is gone", x.contract(0, 5, 0, 20, 1), RockTugs.BAD);
        x.contract(0, 5, 0, 21, 1);
        x.contract(0, 25, 0, 21, 2);
        contract(x, 0, 0, NONE, 1);
        x.run(1);
        contract(x, 0, 5, 21, 0);
        // the other one has 15 of 25 tons when its last DAY is gone
        contract(x, 1, 15, NONE, 0);
        due.is("paid", x.paid(), 1);
        due.says("OPEN: neither MET nor VOID.");
        RockTugs z = laden(20, 0);
        z.contract(0, 5, 0, 21, 1);
        z.contract(0, 5, 0, 22, 2);
        Due.program(z, 0, "?");
        z.run(1);
        contract(z, 0, 0, NONE, 0);
        contract(z, 1, 0, NONE, 1);
        Due.program(z, 1, "give");
        z.rule(0, 99999);
        z.contract(0, 5, 0, 23, 4);
        z.send(0, 1);
        z.run(1);
        contract(z, 1, 0, NONE, 0);
        contract(z, 2, 0, NONE, 1);
        z.run(1);
        contract(z, 0, 0, NONE, 0);
        contract(z, 1, 0, NONE, 0);
        contract(z, 2, 5, 23, 0);
        due.is("VOID ones get nothing", z.told(0, 7), 15);
        due.is("paid", z.paid(), 4);
    }

    private static void metOnes() {
        due.says("A CONTRACT that has all its tons is MET on this DAY.");
        RockTugs x = laden(20, 0);
        x.contract(0, 20, 0, 3000, 5);
        x.run(1);
        contract(x, 0, 20, 21, 0);
        x.run(30);
        contract(x, 0, 20, 21, 0);
        due.is("paid", x.paid(), 5);
        RockTugs late = laden(20, 0);
        late.contract(0, 20, 0, 21, 5);
        late.run(30);
        contract(late, 0, 20, 21, 0);
        due.is("its last DAY is gone: it is MET all the same", late.paid(), 5);
    }

    /** In two bits by two visits: MET on the DAY of the last one. */
    private static void bitByBit() {
        due.says("as far as each lacks tons");
        RockTugs x = new RockTugs();
        x.rock(3, 0, 0, 5, 0);
        x.rock(1, 0, 0, 5, 0);
        x.stock(1, 0, 9999);
        x.tug(2, 0, 0, 0);
        x.contract(0, 39, 0, 3000, 5);
        Due.program(x, 0, "while 1{aim 1 dock dig free aim 0 dock give free}");
        x.send(0, 0);
        x.run(6);
        contract(x, 0, 20, NONE, 1);
        due.is("paid", x.paid(), 0);
        x.run(5);
        contract(x, 0, 20, NONE, 1);
        x.run(1);
        contract(x, 0, 39, 11, 0);
        due.is("one ton is left", x.told(0, 7), 1);
        x.run(6);
        contract(x, 0, 39, 11, 0);
        due.is("all of the third", x.told(0, 7), 21);
    }

    private static void stockFull() {
        due.says("what is left to the STATION's STOCK (9999 at most; what is beyond stays in the hold).");
        for (int what = 0; what < 2; what++) {
            for (int stock : new int[] {9978, 9979, 9980, 9998, 9999}) {
                RockTugs x = laden(what == 0 ? 20 : 0, what == 1 ? 20 : 0);
                x.stock(0, what, stock);
                x.run(1);
                int much = Math.min(20, 9999 - stock);
                due.is("STOCK from " + stock, x.told(0, 7 + what), stock + much);
                due.is("hold", x.has(0, 6 + what), 20 - much);
                RockTugs y = laden(what == 0 ? 20 : 0, what == 1 ? 20 : 0);
                y.stock(0, what, stock);
                y.contract(what, 15, 0, 3000, 1);
                y.run(1);
                int left = Math.min(5, 9999 - stock);
                due.is("CONTRACTS first", y.about(0, 0), 15);
                due.is("STOCK from " + stock, y.told(0, 7 + what), stock + left);
                due.is("hold", y.has(0, 6 + what), 5 - left);
            }
        }
        RockTugs again = laden(20, 0);
        again.stock(0, 0, 9989);
        again.run(1);
        due.is("10 stay", again.has(0, 6), 10);
        again.contract(0, 4, 0, 3000, 1);
        again.stock(0, 0, 9998);
        again.run(1);
        due.is("given on the next DAY", again.about(0, 0), 4);
        due.is("5 stay", again.has(0, 6), 5);
    }

    private static void notHere() {
        due.says("give: DOCKED at a STATION");
        for (int kind = 0; kind < 4; kind++) {
            RockTugs x = new RockTugs();
            x.rock(1, 0, 0, 5, 0);
            x.rock(kind, 0, 0, 5, 0);
            x.stock(0, 0, 4);
            x.tug(0, 0, 0, 0);
            Due.program(x, 0, "dig free give until k give");
            x.moor(0, 0);
            x.send(0, 0);
            x.run(4);
            due.is("FREE", x.has(0, 6), 4);
            x.moor(0, 1);
            x.run(1);
            due.is("at kind " + kind, x.has(0, 6), kind == 3 ? 0 : 4);
            due.is("STOCK at kind " + kind, x.told(1, 7), kind == 3 ? 4 : 0);
        }
    }

    private static void paid() {
        due.says("PAY of all CONTRACTS that are MET.");
        RockTugs x = laden(20, 0);
        for (int i = 0; i < 8; i++) x.contract(0, i < 5 ? 4 : 1, 0, 3000, 9999);
        x.run(1);
        due.is("five of eight", x.paid(), 5 * 9999);
        RockTugs y = laden(8, 0);
        for (int i = 0; i < 8; i++) y.contract(0, 1, 0, 3000, 9999);
        y.run(1);
        due.is("all", y.paid(), 8 * 9999);
        RockTugs z = laden(8, 0);
        z.contract(0, 8, 0, 3000, 0);
        z.run(1);
        due.is("PAY 0", z.paid(), 0);
        contract(z, 0, 8, 21, 0);
    }
}
