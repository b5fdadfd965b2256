/** Promises 16 to 21: the tape, programs and their faults, orders, days, rules. */
public final class ProgramTest {
    private static final Due due = new Due("ProgramTest");
    private static final int BAD = RockTugs.BAD, FULL = RockTugs.FULL, NO = RockTugs.NO, NONE = RockTugs.NONE;

    public static void main(String[] args) {
        tape();
        programs();
        texts();
        faults();
        nesting();
        values();
        flow();
        thirtySteps();
        orders();
        ordersFull();
        days();
        rules();
        due.end();
    }

    private static void tape() {
        RockTugs x = new RockTugs();
        for (int i = 1; i <= 10; i++) due.is("feed", x.feed(0, 0, 0), 12 * i);
        due.is("full", x.feed(0, 0, 0), FULL);
        due.is("it stays", x.count(10), 120);
        due.is("above", x.trim(121), BAD);
        due.is("below", x.trim(-1), BAD);
        due.is("trim", x.trim(120), 120);
        due.is("trim", x.trim(109), 109);
        due.is("full", x.feed(0, 0, 0), FULL);
        due.is("trim", x.trim(108), 108);
        due.is("not again", x.trim(109), BAD);
        due.is("feed", x.feed(0, 0, 0), 120);
        due.is("trim", x.trim(0), 0);
        due.is("bytes", x.count(10), 0);
        // "dig " "wait" " aim" by bytes
        x.feed(0x64696720, 0x77616974, 0x2061696d);
        x.trim(8);
        x.feed(0x2061696d, 0x20372020, 0x64696720);
        due.is("bytes in their order", x.program(0), 4);
    }

    private static void programs() {
        RockTugs x = new RockTugs();
        x.tug(0, 0, 0, 9);
        due.is("program", Due.program(x, 3, "wait wait"), 2);
        due.is("used up", x.count(10), 0);
        due.is("one", x.count(3), 1);
        Due.write(x, "wait");
        due.is("number", x.program(4), BAD);
        due.is("used up, too", x.count(10), 0);
        Due.write(x, "wait");
        due.is("number", x.program(-1), BAD);
        due.is("used up, too", x.count(10), 0);
        due.is("empty", x.program(2), -100);
        due.is("one", x.count(3), 1);
        x.send(0, 3);
        x.run(2);
        due.is("it runs", x.has(0, 10), 3);
        due.is("another one", Due.program(x, 2, "wait"), 1);
        due.is("it runs on", x.has(0, 10), 3);
        due.is("two", x.count(3), 2);
        due.is("anew", Due.program(x, 3, "wait wait wait"), 3);
        due.is("not any more", x.has(0, 10), NONE);
        x.send(0, 3);
        x.run(2);
        due.is("it runs", x.has(0, 10), 3);
        due.is("a fault", Due.program(x, 3, "wait waiter"), -105);
        due.is("used up", x.count(10), 0);
        due.is("not any more", x.has(0, 10), NONE);
        due.is("it is empty", x.send(0, 3), NO);
        due.is("one", x.count(3), 1);
    }

    /** What a TEXT answers as a PROGRAM. */
    private static int text(String text) {
        return Due.program(new RockTugs(), 0, text);
    }

    private static void texts() {
        String[] one = {"aim 0", "aim 99999", "aim 00000", "burn 1,2", "burn-1,-2", "burn(1),(2)", "burn 1 , 2", "dock", "free", "dig", "make", "give",
            "still", "shed", "claim", "wait", "  wait  ", "until x", "until!x", "until(x)", "until x|y&u<v+f*w", "until m=t/k-s", "until 1<2|3>4&5=6",
            "burn 1|0,0|1", "until --x", "until !-!-x", "until 1-2-3", "until 1--2", "until 1/2*3", "until (1<2)<3", "until ( 1 )"};
        for (String text : one) due.is(text, text(text), 1);
        due.is("if", text("if f{dock}"), 2);
        due.is("if else", text("if f{dock}else{wait dig}"), 4);
        due.is("if else if", text("if f{dock}else{if w{dig}else{wait}}make"), 6);
        due.is("while", text("while(f){dock free}"), 3);
        due.is("no blank needed", text("if f{aim 3}wait"), 3);
        due.is("if |", text("if f|w{dock}"), 2);
        due.is("while |", text("while f|w{dock}"), 2);
    }

    private static void fault(String text, int place) {
        due.is(text, text(text), -100 - place);
    }

    private static void faults() {
        fault("", 0);
        fault("     ", 5);
        fault("x", 0);
        fault("  Wait", 2);
        fault("waits", 0);
        fault("waitz", 0);
        fault("await", 0);
        fault("zait", 0);
        fault("wai", 0);
        fault("wait0", 4);
        fault("wait9", 4);
        fault("wait`", 4);
        fault("wait{", 4);
        fault("whilewhile", 0);
        fault("claims", 0);
        fault("untilx 1", 0);
        fault("wait waitwait", 5);
        fault("wait\twait", 4);
        fault("wait;", 4);
        fault("\u00e9", 0);
        fault("wait\u0000", 4);
        fault("else", 0);
        fault("3", 0);
        fault("aim", 3);
        fault("aim  ", 5);
        fault("aim x", 4);
        fault("aim 123456", 4);
        fault("aim -1", 4);
        fault("aim3", 3);
        fault("aim 3dock", 5);
        fault("aim (3)", 4);
        fault("burn9,9", 4);
        fault("burn 9", 6);
        fault("burn 9;9", 6);
        fault("burn 9,", 7);
        fault("burn 9,9,9", 8);
        fault("burn 9,9wait", 8);
        fault("burn 9 9", 7);
        fault("until", 5);
        fault("until1", 5);
        fault("untilx", 0);
        fault("until xy", 6);
        fault("until a", 6);
        fault("until x1", 7);
        fault("until 1x", 7);
        fault("until 1<2<3", 9);
        fault("until 1=2>3", 9);
        fault("until +1", 6);
        fault("until 1+", 8);
        fault("until 1 2", 8);
        fault("until 1**2", 8);
        fault("until ()", 7);
        fault("until (1", 8);
        fault("until (1))", 9);
        fault("until 1)", 7);
        fault("until wait", 6);
        fault("until 123456", 6);
        fault("until x!", 7);
        fault("if f", 4);
        fault("if f dock", 5);
        fault("if f{}", 5);
        fault("if f{dock", 9);
        fault("if f{dock}else", 14);
        fault("if f{dock}else dock", 15);
        fault("if f{dock}else{}", 15);
        fault("if f{dock}else{dig}else{dig}", 19);
        fault("if{dock}", 2);
        fault("ifx{dock}", 0);
        fault("if f{dock}}", 10);
        fault("if f{dock}elsewhere", 10);
        fault("while f{dock}else{dock}", 13);
        fault("while{", 5);
        fault("{wait}", 0);
        fault("wait }", 5);
        fault("dock 1", 5);
    }

    private static String times(String part, int many) {
        return part.repeat(many);
    }

    private static void nesting() {
        due.is("four {", text(times("if f{", 4) + "wait" + times("}", 4)), 5);
        fault(times("if f{", 5) + "wait" + times("}", 5), 24);
        due.is("four { again", text(times("if f{", 3) + "if f{dig}else{dig}while f{dig}" + times("}", 3)), 8);
        fault("while f{while f{while f{while f{dig while f {dig", 44);
        due.is("eight (", text("until " + times("(", 8) + "1" + times(")", 8)), 1);
        fault("until " + times("(", 9) + "1" + times(")", 9), 14);
        due.is("eight ( again", text("until " + times("(", 8) + "1" + times(")", 8) + "+" + times("(", 8) + "1" + times(")", 8)), 1);
        due.is("eight signs", text("until !-!-!-!-1"), 1);
        fault("until !-!-!-!-!1", 14);
        due.is("eight signs again", text("until --------1---------2"), 1);
        fault("until --------1----------2", 24);
        due.is("till its PART ends", text("until " + times("-(", 8) + "1" + times(")", 8)), 1);
        fault("until " + times("-(", 7) + "--1", 6 + 14 + 1);
        fault("until " + times("-(", 8) + "1+-1", 6 + 16 + 2);
        RockTugs x = new RockTugs();
        for (int i = 0; i < 3; i++) {
            due.is("a fault leaves nothing open", Due.program(x, 0, "if 1{if 1{until " + times("-(", 5)), -126);
            due.is("so all may be open again", Due.program(x, 0, times("if f{", 4) + "until " + times("-(", 8) + "1" + times(")", 8) + times("}", 4)), 5);
        }
        due.is("it ended", text("until " + times("-(", 7) + "-1+-1" + times(")", 7) + "--1"), 1);
    }

    /** What an E is, found by asking whether it is above a middle; of what is beyond 200000 only that end is told. */
    private static int value(String e) {
        int low = -200000, high = 200000;
        for (int i = 0; i < 20 && low < high; i++) {
            int middle = Math.floorDiv(low + high, 2);
            String number = middle < 0 ? "0-(" + part(-middle) + ")" : part(middle);
            RockTugs x = new RockTugs();
            x.tug(0, 0, 0, 77);
            due.is(e, Due.program(x, 0, "if(" + e + ")>" + number + "{aim 1}else{aim 2}"), 3);
            x.send(0, 0);
            x.run(2);
            if (x.has(0, 11) == 1) low = middle + 1;
            else high = middle;
        }
        return low;
    }

    private static String part(int v) {
        return v > 99999 ? "99999+" + part(v - 99999) : "" + v;
    }

    private static void value(String e, int want) {
        due.is(e, value(e), want);
    }

    private static void values() {
        value("2+3*4", 14);
        value("(2+3)*4", 20);
        value("7/2", 3);
        value("-7/2", -3);
        value("7/-2", -3);
        value("7/0", 0);
        value("0/0", 0);
        value("7-2-1", 4);
        value("8/4/2", 1);
        value("7/2*2", 6);
        value("!0", 1);
        value("!5", 0);
        value("!!5", 1);
        value("-!0", -1);
        value("!-1", 0);
        value("--3", 3);
        value("2---3", -1);
        value("!0+1", 2);
        value("-2*-3", 6);
        value("2<3", 1);
        value("3<3", 0);
        value("3<2", 0);
        value("3=3", 1);
        value("3=4", 0);
        value("4>3", 1);
        value("3>3", 0);
        value("(3>2)>0", 1);
        value("1+1=2", 1);
        value("1=1+1", 0);
        value("2|0", 1);
        value("0|0", 0);
        value("0|5", 1);
        value("2&3", 1);
        value("2&0", 0);
        value("0&2", 0);
        value("1|0&0", 1);
        value("(1|0)&0", 0);
        value("0&0|1", 1);
        value("2*3=6&1", 1);
        value("5&0-5", 1);
        value("f", 77);
        value("t", 1);
        value("w+m+k+s+x+y+u+v", 0);
        value("99999", 99999);
        value("00012", 12);
        value("99999*99999/99999", 99999 * 99999 / 99999);
        value("65536*65536", 0);
        value("65536*32768", -200000);
        value("65536*32768-1", 200000);
        value("(65536*32768)/-1", -200000);
        sensed();
    }

    private static void sensed() {
        RockTugs y = new RockTugs();
        y.tug(2, 10, 20, 50);
        y.rock(2, 100, -20, 5, 3);
        y.speed(0, 11, -13);
        y.stock(0, 1, 9);
        Due.program(y, 0, "burn x/10,-y/10 burn u,v");
        y.send(0, 0);
        y.run(1);
        // the ROCK is at 111, -33 now: x 101, -y 53
        y.run(1);
        due.is("p", y.has(0, 3), 90);
        due.is("q", y.has(0, 4), 50);
        // u 11 - 90, v -13 - 50: both -9
        y.run(1);
        due.is("p", y.has(0, 3), 0);
        due.is("q", y.has(0, 4), -40);
        y.moor(0, 0);
        Due.program(y, 1, "dig still burn m,s burn k,w burn x+y,u+v burn t-5,0");
        y.send(0, 1);
        int fuel = y.has(0, 5);
        y.run(3);
        due.is("still costs", y.has(0, 5), fuel - 1);
        y.run(1);
        due.is("METAL 9, WHEEL 3", y.has(0, 5), fuel - 13);
        y.run(1);
        due.is("DOCKED 1, WATER 0", y.has(0, 5), fuel - 14);
        y.run(1);
        due.is("no difference to its own ROCK", y.has(0, 5), fuel - 14);
        y.run(1);
        due.is("DAY 9 less 5", y.has(0, 5), fuel - 18);
    }

    private static void flow() {
        RockTugs x = new RockTugs();
        x.tug(0, 0, 0, 99);
        Due.order(x, 0, "if t=1{burn 1,0}else{burn 2,0}if t=1{burn 3,0}else{burn 4,0}wait until t>6 burn 5,0");
        x.run(1);
        due.is("then", x.has(0, 5), 98);
        x.run(1);
        due.is("else", x.has(0, 5), 94);
        x.run(1);
        due.is("wait", x.has(0, 5), 94);
        // DAYS 4, 5, 6 are waited for; on DAY 7 until takes no DAY
        x.run(3);
        due.is("until", x.has(0, 5), 94);
        due.is("still in it", x.has(0, 10), 0);
        x.run(1);
        due.is("and on", x.has(0, 5), 89);
        due.is("it has its PROGRAM yet", x.has(0, 10), 0);
        x.run(1);
        due.is("none is left", x.has(0, 10), NONE);
        RockTugs y = new RockTugs();
        y.tug(0, 0, 0, 99);
        Due.order(y, 0, "while f>90{burn 1,0 if f<96{burn 1,1}}burn 0,9 while 0{wait}");
        y.run(1);
        due.is("98", y.has(0, 5), 98);
        y.run(2);
        due.is("96", y.has(0, 5), 96);
        y.run(1);
        due.is("95", y.has(0, 5), 95);
        y.run(1);
        due.is("93", y.has(0, 5), 93);
        y.run(4);
        due.is("81: 92, 90, then 9", y.has(0, 5), 81);
        due.is("none is left", y.has(0, 10), NONE);
    }

    private static void thirtySteps() {
        RockTugs x = new RockTugs();
        x.tug(0, 0, 0, 99);
        Due.order(x, 0, "while 1{aim 1 aim 2 aim 3}");
        x.run(1);
        // seven rounds of 4, then asked, aim 1
        due.is("30 steps", x.has(0, 11), 1);
        x.run(1);
        // aim 2, aim 3, then seven rounds
        due.is("goes on there", x.has(0, 11), 3);
        due.is("no end", x.has(0, 10), 0);
        thirtyAtTheEnd();
        RockTugs y = new RockTugs();
        y.tug(0, 0, 0, 99);
        Due.order(y, 0, "while 1{aim 1}");
        y.run(30);
        due.is("runs on", y.has(0, 10), 0);
        due.is("without FUEL", y.has(0, 5), 99);
    }

    /** If the 30th step is the last S, that none is left is found on the next DAY. */
    private static void thirtyAtTheEnd() {
        // the loop is left by AIM: 3 rounds with 5 until each, 3 aims, 3 if's, 2 if's within, asked 4 times: 27 steps
        String loop = "while x<3{" + times("until 1 ", 5) + "if x{if x<2{aim 2}else{aim 3}}else{aim 1}}";
        for (int aims = 1; aims <= 4; aims++) {
            RockTugs x = new RockTugs();
            for (int i = 0; i < 4; i++) x.rock(0, i, 0, 5, 0);
            x.tug(0, 0, 0, 99);
            due.is("S", Due.program(x, 0, loop + times("aim 4 ", aims - 1) + "aim 5"), 11 + aims);
            x.send(0, 0);
            x.run(2);
            due.is("AIMS with " + aims, x.has(0, 11), aims < 4 ? 5 : 4);
            due.is("PROGRAM with " + aims, x.has(0, 10), aims < 3 ? NONE : 0);
            x.run(1);
            due.is("AIMS then", x.has(0, 11), 5);
            due.is("PROGRAM then", x.has(0, 10), NONE);
        }
    }

    private static void orders() {
        RockTugs x = new RockTugs();
        x.tug(0, 2000, -1998, 9);
        x.tug(0, 0, 0, 9);
        due.is("tug", x.send(2, 0), BAD);
        due.is("tug", x.send(-1, 0), BAD);
        due.is("program", x.send(0, 4), BAD);
        due.is("program", x.send(0, -1), BAD);
        due.is("empty", x.send(0, 0), NO);
        Due.program(x, 0, "burn 1,0");
        Due.program(x, 1, "burn 2,0");
        Due.program(x, 2, "burn 3,0");
        // FAR 2000 + 999: 2 DAYS more
        due.is("send", x.send(0, 0), 3);
        x.rule(0, 2999);
        due.is("send", x.send(0, 1), 2);
        x.rule(0, 3000);
        due.is("send", x.send(0, 2), 1);
        RockTugs slow = new RockTugs();
        slow.tug(0, 0, 7, 9);
        slow.tug(0, 7, 1, 9);
        slow.rule(0, 1);
        Due.program(slow, 0, "wait");
        due.is("LIGHT 1", slow.send(0, 0), 8);
        due.is("LIGHT 1", slow.send(1, 0), 8);
        due.is("here", x.send(1, 0), 1);
        due.is("here", x.send(1, 1), 1);
        due.is("on their way", x.count(4), 5);
        x.run(2);
        due.is("on their way", x.count(4), 2);
        due.is("the latest of a DAY", x.has(1, 5), 7);
        due.is("it runs", x.has(1, 10), 1);
        due.is("the fastest", x.has(0, 5), 6);
        x.run(1);
        due.is("the next", x.has(0, 5), 4);
        x.run(1);
        due.is("the last", x.has(0, 5), 3);
        due.is("none on their way", x.count(4), 0);
        x.rule(0, 99999);
        x.send(0, 0);
        x.send(1, 1);
        Due.program(x, 0, "wait dock");
        Due.program(x, 1, "?");
        x.run(2);
        due.is("as it is now", x.has(0, 5), 3);
        due.is("as it is now", x.has(0, 10), 0);
        due.is("none, if it is empty", x.has(1, 10), NONE);
        Due.program(x, 2, "wait wait wait wait wait");
        Due.program(x, 3, "wait");
        x.send(1, 2);
        x.run(2);
        due.is("it runs", x.has(1, 10), 2);
        x.send(1, 3);
        Due.program(x, 3, "");
        x.run(2);
        due.is("an order for an empty one ends the other", x.has(1, 10), NONE);
        x.moor(0, x.rock(0, 10000, 0, 1, 0));
        x.rule(0, 1000);
        due.is("a DOCKED one is where its ROCK is", x.send(0, 2), x.count(11) + 11);
    }

    private static void ordersFull() {
        RockTugs x = new RockTugs();
        x.tug(0, 0, 0, 9);
        due.is("NO ahead of FULL", x.send(0, 0), NO);
        Due.program(x, 0, "wait");
        for (int i = 0; i < 30; i++) due.is("send", x.send(0, 0), 1);
        due.is("full", x.send(0, 0), FULL);
        due.is("NO ahead of FULL", x.send(0, 1), NO);
        due.is("BAD ahead of both", x.send(1, 1), BAD);
        due.is("30", x.count(4), 30);
        x.run(2);
        due.is("room again", x.send(0, 0), 3);
    }

    private static void days() {
        RockTugs x = new RockTugs();
        due.is("n", x.run(0), BAD);
        due.is("n", x.run(31), BAD);
        for (int i = 1; i <= 99; i++) due.is("run", x.run(30), 30 * i);
        due.is("run", x.run(1), 2971);
        due.is("above 3000", x.run(30), FULL);
        due.is("bad first", x.run(31), BAD);
        due.is("up to 3000", x.run(29), 3000);
        due.is("above 3000", x.run(1), FULL);
        due.is("TODAY", x.count(11), 3000);
    }

    private static void rules() {
        RockTugs x = new RockTugs();
        int[] least = {1, 0, 0};
        int[] most = {99999, 9999, 50};
        int[] first = {1000, 100, 10};
        for (int which = 0; which < 3; which++) {
            due.is("below", x.rule(which, least[which] - 1), BAD);
            due.is("above", x.rule(which, most[which] + 1), BAD);
            due.is("first", x.rule(which, most[which]), first[which]);
            due.is("most", x.rule(which, least[which]), most[which]);
            due.is("least", x.rule(which, least[which]), least[which]);
        }
        due.is("which", x.rule(3, 1), BAD);
        due.is("which", x.rule(-1, 1), BAD);
    }
}
