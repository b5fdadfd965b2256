/** Promises 25 to 27: contracts, and how they are met. */
public final class ContractTest {
    private static final Due due = new Due("ContractTest");
    private static final int BAD = RockTugs.BAD, FULL = RockTugs.FULL, NO = RockTugs.NO, NONE = RockTugs.NONE;

    public static void main(String[] args) {
        contracts();
        daysOfContracts();
        given();
        metOnTheLastDay();
        stockFull();
        due.end();
    }

    private static void contracts() {
        RockTugs x = new RockTugs();
        x.rock(3, 0, 0, 1, 0);
        x.rock(2, 0, 0, 1, 0);
        due.is("what", x.contract(2, 1, 0, 0, 0), BAD);
        due.is("what", x.contract(-1, 1, 0, 0, 0), BAD);
        due.is("tons", x.contract(0, 0, 0, 0, 0), BAD);
        due.is("tons", x.contract(0, 1000, 0, 0, 0), BAD);
        due.is("rock", x.contract(0, 1, 2, 0, 0), BAD);
        due.is("rock", x.contract(0, 1, -1, 0, 0), BAD);
        due.is("day", x.contract(0, 1, 0, -1, 0), BAD);
        due.is("day", x.contract(0, 1, 0, 3001, 0), BAD);
        due.is("pay", x.contract(0, 1, 0, 0, -1), BAD);
        due.is("pay", x.contract(0, 1, 0, 0, 10000), BAD);
        due.is("no STATION", x.contract(0, 1, 1, 0, 0), NO);
        due.is("bad first", x.contract(0, 0, 1, 0, 0), BAD);
        due.is("contract", x.contract(0, 999, 0, 3000, 9999), 0);
        due.is("contract", x.contract(1, 1, 0, 0, 0), 1);
        for (int i = 2; i < 8; i++) due.is("contract", x.contract(1, 1, 0, 0, 0), i);
        due.is("full", x.contract(1, 1, 0, 0, 0), FULL);
        due.is("NO ahead of FULL", x.contract(1, 1, 1, 0, 0), NO);
        due.is("contracts", x.count(7), 8);
        due.is("has", x.about(0, 0), 0);
        due.is("met", x.about(0, 1), NONE);
        due.is("open", x.about(0, 2), 1);
        due.is("what", x.about(0, 3), BAD);
        due.is("what", x.about(0, -1), BAD);
        due.is("contract", x.about(8, 0), BAD);
        due.is("contract", x.about(-1, 0), BAD);
        due.is("paid", x.paid(), 0);
    }

    private static void daysOfContracts() {
        RockTugs x = new RockTugs();
        x.rock(3, 0, 0, 1, 0);
        x.run(5);
        due.is("a DAY that is gone", x.contract(0, 1, 0, 4, 1), BAD);
        due.is("TODAY", x.contract(0, 1, 0, 5, 1), 0);
        due.is("tomorrow", x.contract(0, 1, 0, 6, 1), 1);
        due.is("open", x.about(0, 2), 1);
        x.run(1);
        due.is("void", x.about(0, 2), 0);
        due.is("open", x.about(1, 2), 1);
        x.run(1);
        due.is("void", x.about(1, 2), 0);
    }

    /** A HAULER with 40 WATER and 25 METAL at a STATION, ROCK 2; TODAY is 21. */
    private static RockTugs laden() {
        RockTugs x = new RockTugs();
        x.rock(1, 0, 0, 5, 0);
        x.rock(2, 0, 0, 5, 0);
        x.rock(3, 0, 0, 5, 0);
        x.rock(3, 0, 0, 5, 0);
        x.stock(0, 0, 40);
        x.stock(1, 1, 25);
        x.tug(1, 0, 0, 0);
        Due.program(x, 0, "dock while w<40{dig}free aim 1 dock while m<25{dig}free aim 2 dock");
        x.send(0, 0);
        x.run(21);
        due.is("WATER", x.has(0, 6), 40);
        due.is("METAL", x.has(0, 7), 25);
        due.is("at the STATION", x.has(0, 9), 2);
        return x;
    }

    private static void given() {
        RockTugs x = laden();
        x.contract(1, 26, 2, 3000, 1);
        x.contract(0, 9, 3, 3000, 2);
        x.contract(0, 30, 2, 3000, 4);
        x.contract(0, 5, 2, 21, 8);
        x.contract(0, 4, 2, 3000, 16);
        x.contract(0, 7, 2, 3000, 32);
        Due.order(x, 0, "give give");
        due.is("TODAY", x.count(11), 22);
        x.run(1);
        int[] got = {25, 0, 30, 0, 4, 6};
        int[] met = {NONE, NONE, 22, NONE, 22, NONE};
        int[] open = {1, 1, 0, 0, 0, 1};
        for (int i = 0; i < 6; i++) {
            due.is("tons of " + i, x.about(i, 0), got[i]);
            due.is("met of " + i, x.about(i, 1), met[i]);
            due.is("open of " + i, x.about(i, 2), open[i]);
        }
        due.is("paid", x.paid(), 20);
        due.is("WATER", x.has(0, 6), 0);
        due.is("METAL", x.has(0, 7), 0);
        due.is("nothing is left for the STATION", x.told(2, 7), 0);
        x.run(30);
        due.is("met stays", x.about(2, 1), 22);
        RockTugs last = laden();
        last.contract(0, 39, 2, 3000, 4);
        last.contract(0, 1, 2, 3000, 8);
        Due.order(last, 0, "give");
        last.run(1);
        due.is("to the last ton", last.paid(), 12);
        RockTugs y = laden();
        y.contract(0, 30, 2, 3000, 4);
        Due.order(y, 0, "give");
        y.run(1);
        due.is("what is left", y.told(2, 7), 10);
        due.is("what is left", y.told(2, 8), 25);
        RockTugs z = new RockTugs();
        z.rock(1, 0, 0, 5, 0);
        z.stock(0, 0, 9);
        z.tug(0, 0, 0, 0);
        z.moor(0, 0);
        Due.order(z, 0, "dig give free give");
        z.run(4);
        due.is("not at what is no STATION, nor FREE", z.has(0, 6), 5);
    }

    private static void metOnTheLastDay() {
        RockTugs x = laden();
        x.contract(0, 5, 2, 22, 8);
        Due.order(x, 0, "give");
        due.is("its last DAY", x.about(0, 2), 1);
        x.run(1);
        due.is("met on it", x.about(0, 1), 22);
        due.is("paid", x.paid(), 8);
    }

    private static void stockFull() {
        RockTugs x = laden();
        x.stock(2, 0, 9980);
        x.stock(2, 1, 9999);
        x.contract(1, 5, 2, 3000, 3);
        Due.order(x, 0, "give");
        x.run(1);
        due.is("9999 at most", x.told(2, 7), 9999);
        due.is("the rest stays", x.has(0, 6), 21);
        due.is("9999 at most", x.told(2, 8), 9999);
        due.is("the rest stays", x.has(0, 7), 20);
        due.is("paid", x.paid(), 3);
    }
}
