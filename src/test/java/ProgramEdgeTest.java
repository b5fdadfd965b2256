/** Part 2 of the Terms at its edges: THE TAPE, texts, faults, what an E is; promises 16 to 18. */
public final class ProgramEdgeTest {
    private static final Due due = new Due("ProgramEdgeTest");
    private static final int NONE = RockTugs.NONE;
    private static final String[] PLAIN = {"dock", "free", "dig", "make", "give", "still", "shed", "claim", "wait"};
    private static final String LETTERS = "abcdefghijklmnopqrstuvwxyz", NAMES = "xyuvfwmtks";

    public static void main(String[] args) {
        bytesOfTheTape();
        tapeFull();
        tapeUsedUp();
        emptyBehindAFault();
        textBehindText();
        oneOrMore();
        wordsOfS();
        numbers();
        names();
        everyByteBehindAWord();
        everyByteInAnE();
        everyByteAtTheStart();
        blanks();
        wordsThatNeedABlank();
        endTooSoon();
        braces();
        brackets();
        signs();
        comparisons();
        elses();
        howMany();
        wrapping();
        dividing();
        truths();
        binding();
        noSuchRock();
        sensedAtFirst();
        due.end();
    }

    /** What a TEXT answers as a PROGRAM. */
    private static int text(String text) {
        return Due.program(new RockTugs(), 0, text);
    }

    private static void good(String text, int many) {
        due.is(text, text(text), many);
    }

    private static void fault(String text, int place) {
        due.is(text, text(text), -100 - place);
    }

    private static int four(String four) {
        return four.charAt(0) << 24 | four.charAt(1) << 16 | four.charAt(2) << 8 | four.charAt(3);
    }

    private static void bytesOfTheTape() {
        due.says("Twelve bytes come to THE TAPE, the highest of each number first: how many it has.");
        String text = "aim 7 dig ai";
        RockTugs x = new RockTugs();
        x.tug(0, 0, 0, 0);
        due.is("feed", x.feed(four(text), four(text.substring(4)), four(text.substring(8))), 12);
        due.is("feed", x.feed(four("m 12"), four("345 "), four("wait")), 24);
        due.is("four S", x.program(0), 4);
        x.send(0, 0);
        x.run(2);
        due.is("AIMS at", x.has(0, 11), 7);
        x.run(1);
        due.is("AIMS at", x.has(0, 11), 12345);
        // each byte of 128 and above stands by itself, too
        for (int at = 0; at < 12; at++) {
            int[] abc = {four("    "), four("    "), four("    ")};
            abc[at / 4] |= 0xDF << 24 - 8 * (at % 4);
            RockTugs y = new RockTugs();
            y.feed(abc[0], abc[1], abc[2]);
            due.is("a byte at " + at, y.program(0), -100 - at);
        }
    }

    private static void tapeFull() {
        due.says("TEXTS on THE TAPE (120 bytes at most; an act that reads it uses it up, whatever it answers)");
        good("wait ".repeat(24), 24);
        good("aim 1 ".repeat(20), 20);
        good(" ".repeat(116) + "wait", 1);
        good("wait" + " ".repeat(116), 1);
        fault(" ".repeat(120), 120);
        fault("wait ".repeat(23) + "wait!", 119);
        fault("wait ".repeat(23) + "wai !", 115);
        String deep = "if 1{if 1{if 1{if 1{";
        due.is("120 bytes", (deep + "dig ".repeat(24) + "}}}}").length(), 120);
        good(deep + "dig ".repeat(24) + "}}}}", 28);
        fault(deep + "dig ".repeat(24) + "dig}", 120);
        good("until 1" + "+1".repeat(56), 1);
        fault("until 1" + "+1".repeat(56) + "+", 120);
        good("dig ".repeat(30), 30);
        RockTugs x = new RockTugs();
        x.tug(0, 0, 0, 99);
        // the longest E of all has its value: 57 is asked for
        Due.program(x, 0, "until 1" + "+1".repeat(56));
        x.send(0, 0);
        x.run(2);
        due.is("it is not 0", x.has(0, 10), NONE);
        String burn = "burn 1" + "+1".repeat(50) + "-99,0";
        Due.program(x, 0, burn);
        x.send(0, 0);
        x.run(2);
        due.is("51 less 99", x.has(0, 3), -90);
    }

    private static void tapeUsedUp() {
        due.says("an act that reads it uses it up, whatever it answers");
        String[] texts = {"wait", "wait x", "", "?"};
        for (String text : texts) {
            for (int program : new int[] {-1, 0, 3, 4}) {
                RockTugs x = new RockTugs();
                Due.program(x, program, text);
                due.is("bytes behind " + text, x.count(10), 0);
                due.is("the same again finds none", x.program(0), -100);
            }
        }
        due.says("PROGRAMS 0 .. 3 are TEXTS on THE TAPE");
        RockTugs x = new RockTugs();
        x.tug(0, 0, 0, 0);
        for (int i = 0; i < 4; i++) due.is("program " + i, Due.program(x, i, "aim " + (i + 5)), 1);
        due.is("four", x.count(3), 4);
        for (int i = 0; i < 4; i++) {
            x.send(0, i);
            x.run(2);
            due.is("each its own", x.has(0, 11), i + 5);
        }
    }

    private static void emptyBehindAFault() {
        due.says("-100 less the place of its fault: it is empty then.");
        String[] texts = {"wait wait ?", "wait if 1{wait", "aim 1 burn 1,1,", "until 1 2", "", "?", "if 1{wait}else{"};
        int[] places = {10, 14, 14, 8, 0, 0, 15};
        for (int i = 0; i < texts.length; i++) {
            RockTugs x = new RockTugs();
            x.tug(0, 0, 0, 9);
            Due.program(x, 1, "wait");
            x.send(0, 1);
            due.is("a fault in " + texts[i], Due.program(x, 1, texts[i]), -100 - places[i]);
            due.is("it is empty", x.count(3), 0);
            due.is("it is empty", x.send(0, 1), RockTugs.NO);
            x.run(2);
            due.is("an ORDER for it brings none", x.has(0, 10), NONE);
            due.is("AIM stays", x.has(0, 11), 0);
            due.is("written again", Due.program(x, 1, "wait"), 1);
            due.is("it is not empty", x.count(3), 1);
        }
    }

    /** What stood on THE TAPE ahead of a TEXT says nothing of it. */
    private static void textBehindText() {
        due.says("an act that reads it uses it up, whatever it answers");
        String[] heads = {"wait", "wait wait", "wait x", "aim 1", "aim 12 34", "if 1{", "if 1{if 1{if 1{if 1{", "until ((((((((", "until --------", "until -(!(-(", "wait }", "wait ;", "until 1", "aim"};
        for (String head : heads) {
            RockTugs x = new RockTugs();
            Due.program(x, 0, head);
            due.is("wait behind " + head, Due.program(x, 0, "wait"), 1);
            Due.program(x, 0, head);
            due.is("a number behind " + head, Due.program(x, 0, "1"), -100);
            Due.program(x, 0, head);
            due.is("all open behind " + head, Due.program(x, 0, "if 1{if 1{if 1{if 1{until -(-(-(-(!(!(!(!(1))))))))}}}}"), 5);
            Due.program(x, 0, head);
            due.is("too many open behind " + head, Due.program(x, 0, "if 1{if 1{if 1{if 1{if 1{"), -124);
            Due.program(x, 0, head);
            due.is("the end behind " + head, Due.program(x, 0, ""), -100);
        }
    }

    private static void oneOrMore() {
        due.says("one or more S. S:");
        fault("", 0);
        fault(" ", 1);
        good("dig", 1);
        good("dig dig", 2);
        due.says("S's: one or more S.");
        fault("if 1{}", 5);
        fault("if 1{ }", 6);
        fault("if 1{dig}else{}", 14);
        fault("while 1{}", 8);
        good("if 1{dig}", 2);
        good("if 1{dig dig}", 3);
        good("while 1{dig}", 2);
    }

    private static void wordsOfS() {
        due.says("aim NUMBER | burn E, E | dock | free | dig | make | give | still | shed | claim | wait | until E | if E { S's } [ else { S's } ] | while E { S's }");
        for (String word : PLAIN) {
            good(word, 1);
            good(word + " " + word, 2);
            fault(word + "s", 0);
            fault("a" + word, 0);
            fault(word.substring(1), 0);
            fault(word.substring(0, word.length() - 1), 0);
            fault("q" + word.substring(1), 0);
            fault(word.substring(0, word.length() - 1) + "q", 0);
            fault(word + " 1", word.length() + 1);
            fault(word + "(", word.length());
            fault(word.toUpperCase(java.util.Locale.ROOT), 0);
        }
        String[] more = {"aim", "burn", "until", "if", "while"};
        for (String word : more) {
            fault(word, word.length());
            fault(word + " ", word.length() + 1);
            fault(word + " dig", word.length() + 1);
            fault(word + " ,", word.length() + 1);
            fault(word + "s 1", 0);
            fault("q" + word.substring(1) + " 1", 0);
            fault(word.substring(0, word.length() - 1) + "q 1", 0);
            fault(word + "1", word.length());
        }
        fault("else", 0);
        fault("dig else", 4);
        good("burn 1,2", 1);
        good("burn 1|0&1<2+3*4,-(5)", 1);
        good("burn -(5),1|0&1<2+3*4", 1);
        good("until 1|0&1<2+3*4", 1);
        good("if 1|0&1<2+3*4{dig}", 2);
        good("while 1|0&1<2+3*4{dig}", 2);
        fault("burn 1", 6);
        fault("burn 1,", 7);
        fault("burn ,1", 5);
        fault("burn 1 2", 7);
        fault("burn 1,2,", 8);
        fault("aim -1", 4);
        fault("aim (1)", 4);
        fault("aim f", 4);
        fault("aim 1+1", 5);
    }

    private static void numbers() {
        due.says("NUMBER (1 to 5 digits)");
        String[] taken = {"0", "9", "00", "10", "00000", "00009", "99999"};
        for (String number : taken) {
            good("aim " + number, 1);
            good("until " + number, 1);
            RockTugs x = new RockTugs();
            x.tug(0, 0, 0, 0);
            Due.order(x, 0, "aim " + number);
            x.run(1);
            due.is("AIMS at " + number, x.has(0, 11), Integer.parseInt(number));
        }
        due.says("a NUMBER of more than 5 digits");
        String[] refused = {"000000", "100000", "999999", "0000000000", "99999999999999999999"};
        for (String number : refused) {
            fault("aim " + number, 4);
            fault("until " + number, 6);
            fault("until 1+" + number, 8);
            fault("until " + number + "x", 6);
            fault("dig " + number, 4);
            fault(number, 0);
        }
    }

    private static void names() {
        due.says("NAMES, each one letter, of the TUG: x y u v PLACE and SPEED of the ROCK that it AIMS at less its own");
        for (char letter : LETTERS.toCharArray()) {
            if (NAMES.indexOf(letter) >= 0) {
                good("until " + letter, 1);
                good("burn " + letter + "," + letter, 1);
                fault("until " + letter + letter, 6);
                fault("until " + letter + " " + letter, 8);
                fault("until " + letter + "1", 7);
                fault("until 1" + letter, 7);
            } else {
                fault("until " + letter, 6);
                fault("until !" + letter, 7);
                fault("until (" + letter, 7);
            }
            fault("until " + (char) (letter - 32), 6);
            fault("" + letter, 0);
        }
    }

    /** The byte stands right behind a word, and behind a blank. */
    private static void everyByteBehindAWord() {
        due.says("A word is a row of letters a .. z, or of digits, as long as it goes; any other byte is a sign by itself.");
        for (int b = 0; b < 256; b++) {
            boolean letter = b >= 97 && b <= 122;
            String sign = "" + (char) b;
            if (b == 32) good("wait" + sign, 1);
            else fault("wait" + sign, letter ? 0 : 4);
            if (b == 32) good("wait " + sign, 1);
            else fault("wait " + sign, 5);
            if (b == 32) good("wait" + sign + "dig", 2);
            else fault("wait" + sign + "dig", letter ? 0 : 4);
        }
    }

    private static void everyByteInAnE() {
        due.says("E, the loosest first: AND { | AND }; AND: TEST { & TEST }; TEST: SUM [ (< | = | >) SUM ]; SUM: TERM { (+ | -) TERM }; TERM: PART { (* | /) PART };");
        for (int b = 0; b < 256; b++) {
            String sign = "" + (char) b;
            boolean digit = b >= 48 && b <= 57;
            if ("|&<=>+-*/".indexOf(b) >= 0 || digit) good("until 1" + sign + "1", 1);
            else fault("until 1" + sign + "1", b == 32 ? 8 : 7);
        }
        due.says("PART: NUMBER (1 to 5 digits) | NAME | ! PART | - PART | ( E ).");
        for (int b = 0; b < 256; b++) {
            String sign = "" + (char) b;
            boolean digit = b >= 48 && b <= 57;
            boolean part = digit || NAMES.indexOf(b) >= 0;
            if (part) good("until " + sign, 1);
            else if (b == '!' || b == '-' || b == '(' || b == 32) fault("until " + sign, 7);
            else fault("until " + sign, 6);
        }
    }

    private static void everyByteAtTheStart() {
        due.says("FAULT: the first byte of the first word or sign with which no TEXT goes on");
        for (int b = 0; b < 256; b++) {
            String sign = "" + (char) b;
            if (b == 32) good(sign + "dig", 1);
            else fault(sign + "dig", 0);
            if (b == 32) good("if 1{" + sign + "dig}", 2);
            else fault("if 1{" + sign + "dig}", 5);
            if (b == 32) good("aim " + sign + "7", 1);
            else if (b >= 48 && b <= 57) good("aim " + sign + "7", 1);
            else fault("aim " + sign + "7", 4);
        }
    }

    private static void blanks() {
        due.says("Between words and signs, and at the ends, there may be blanks (byte 32); a word right behind another one needs one.");
        good("if(f>1){aim 3 burn-f,!w}else{dig}while(k){wait}until!m", 7);
        good("  if  (  f  >  1  )  {  aim  3  burn  -  f  ,  !  w  }  else  {  dig  }  ", 4);
        good("if 1{dig}dig", 3);
        good("if 1{dig}else{dig}dig", 4);
        good("until(1)dig", 2);
        good("burn(1),(1)dig", 2);
        fault("wa it", 0);
        fault("until 1 2", 8);
        fault("aim 1 2", 6);
        fault("wait\twait", 4);
        fault("wait\nwait", 4);
        fault("\u00a0wait", 0);
        fault("\u0000wait", 0);
    }

    private static void wordsThatNeedABlank() {
        due.says("(a word that needs a blank ahead of it,");
        fault("aim3", 3);
        fault("aim 3dig", 5);
        fault("until 1dig", 7);
        fault("burn 1,1dig", 8);
        fault("burn1,1", 4);
        fault("if1{dig}", 2);
        fault("while1{dig}", 5);
        fault("dig1", 3);
        fault("until x1", 7);
        fault("until 1x", 7);
        fault("until 12345x", 11);
        good("if 1 {dig }else {dig }dig", 4);
        // ahead of else and behind a NUMBER or a NAME stands a sign or a blank
        fault("if 1{dig}else1{dig}", 13);
        fault("if 1dig", 4);
    }

    private static void endTooSoon() {
        due.says("the end (the place behind the last byte), if it comes too soon.");
        String text = "while f>1{if !w{burn(1),-2}else{aim 3}}until k";
        good(text, 5);
        // ends at which only more could come: the fault is the end, with blanks ahead of it, too
        String[] heads = {"while", "while f", "while f>", "while f>1", "while f>1{", "while f>1{if", "while f>1{if !", "while f>1{if !w", "while f>1{if !w{", "while f>1{if !w{burn",
            "while f>1{if !w{burn(", "while f>1{if !w{burn(1", "while f>1{if !w{burn(1)", "while f>1{if !w{burn(1),", "while f>1{if !w{burn(1),-", "while f>1{if !w{burn(1),-2",
            "while f>1{if !w{burn(1),-2}", "while f>1{if !w{burn(1),-2}else", "while f>1{if !w{burn(1),-2}else{", "while f>1{if !w{burn(1),-2}else{aim", "while f>1{if !w{burn(1),-2}else{aim 3",
            "while f>1{if !w{burn(1),-2}else{aim 3}", "while f>1{if !w{burn(1),-2}else{aim 3}}until"};
        for (String head : heads) {
            due.is("a head", text.startsWith(head) ? 1 : 0, 1);
            for (int blanks = 0; blanks < 3; blanks++) fault(head + " ".repeat(blanks), head.length() + blanks);
        }
        // what is cut within a word is a word that no TEXT goes on with
        fault("while f>1{if !w{burn(1),-2}els", 27);
        fault("while f>1{if !w{bur", 16);
        fault("while f>1{i", 10);
        fault("whil", 0);
    }

    private static void braces() {
        due.says("the fifth {, the ninth (");
        String[] opens = {"if 1{", "while 1{"};
        for (String open : opens) {
            for (int many = 1; many <= 4; many++) {
                good(open.repeat(many) + "dig" + "}".repeat(many), many + 1);
                fault(open.repeat(many) + "dig" + "}".repeat(many - 1), open.length() * many + 3 + many - 1);
                fault(open.repeat(many) + "dig" + "}".repeat(many + 1), open.length() * many + 3 + many);
            }
            fault(open.repeat(5), open.length() * 5 - 1);
            fault(open.repeat(5) + "dig}}}}}", open.length() * 5 - 1);
            fault(open.repeat(4) + "dig " + open, open.length() * 5 + 3);
            fault(open.repeat(4) + "dig}" + open + "dig}" + open + open, open.length() * 7 + 7);
        }
        fault("if 1{while 1{if 1{while 1{if 1 dig", 31);
        fault("if 1{while 1{if 1{while 1{if {", 29);
        String three = "if 1{while 1{if 1{";
        good(three + "if 1{dig}else{dig}}}}", 6);
        good(three + "if 1{dig}if 1{dig}while 1{dig}}}}", 9);
        good(three + "dig}else{if 1{dig}}}}", 6);
        fault(three + "dig}else{if 1{if 1{dig", 36);
        fault(three + "if 1{dig}else{if 1{dig", 36);
    }

    private static void brackets() {
        due.says("the ninth (");
        for (int many = 1; many <= 8; many++) {
            String open = "(".repeat(many), close = ")".repeat(many);
            good("until " + open + "1" + close, 1);
            good("until " + open + "1" + close + "*" + open + "1" + close, 1);
            good("burn " + open + "1" + close + "," + open + "1" + close, 1);
            fault("until " + open + "1" + close.substring(1), 6 + many + many);
            fault("until " + open + "1" + close + ")", 7 + many + many);
        }
        fault("until " + "(".repeat(9) + "1" + ")".repeat(9), 14);
        fault("until " + "(".repeat(9), 14);
        fault("until " + "(".repeat(8) + "1+(1)", 16);
        good("until " + "(".repeat(8) + "1)+(1)" + ")".repeat(7), 1);
        fault("until " + "(".repeat(8) + ")", 14);
        fault("if 1{if 1{burn 1," + "(".repeat(9), 25);
    }

    private static void signs() {
        due.says("the ninth ! or - (both together; each till its PART ends) that would be open within one another, too)");
        String[] eight = {"!!!!!!!!", "--------", "!-!-!-!-", "-!-!-!-!", "!!!!----", "-------!"};
        for (String open : eight) {
            good("until " + open + "1", 1);
            good("until " + open + "(1)", 1);
            good("until " + open + "1+" + open + "1", 1);
            good("until " + open + "1-" + open + "1", 1);
            good("until " + open + "1&" + open + "1", 1);
            fault("until " + open + "!1", 14);
            fault("until " + open + "-1", 14);
            fault("until " + open + "(-1)", 15);
            fault("until " + open + "(1-1+!1)", 19);
            good("until " + open + "(1-1)-1", 1);
            fault("until 1-" + open + "-1", 16);
        }
        good("until -(-(-(-(-(-(-(-(1))))))))", 1);
        fault("until -(-(-(-(-(-(-(-(!1", 22);
        good("until -(-(-(-(-(-(-(-1+-1+!1)))))))", 1);
        fault("until -(-(-(-(-(-(-(-1+--1", 24);
        fault("until !!!!!!!!!", 14);
        fault("until !!!!!!!!", 14);
        fault("until !!!!!!!!)", 14);
        good("burn --------1,--------1", 1);
    }

    private static void comparisons() {
        due.says("TEST: SUM [ (< | = | >) SUM ]");
        for (String one : new String[] {"<", "=", ">"}) {
            good("until 1" + one + "2", 1);
            good("until 1" + one + "2&3" + one + "4|5" + one + "6", 1);
            good("until (1" + one + "2)" + one + "3", 1);
            fault("until 1" + one, 8);
            fault("until " + one + "1", 6);
            for (String other : new String[] {"<", "=", ">"}) {
                fault("until 1" + one + "2" + other + "3", 9);
                fault("until 1" + one + other + "3", 8);
                fault("until 1" + one + "2+3*4" + other + "3", 13);
            }
        }
    }

    private static void elses() {
        due.says("if E { S's } [ else { S's } ]");
        good("if 1{dig}else{dig}", 3);
        fault("if 1{dig}else", 13);
        fault("if 1{dig}else dig", 14);
        fault("if 1{dig}else if 1{dig}", 14);
        fault("if 1{dig}else{dig}else{dig}", 18);
        fault("if 1{dig}dig else{dig}", 13);
        fault("while 1{dig}else{dig}", 12);
        fault("if 1{else{dig}}", 5);
        fault("if 1{dig else{dig}}", 9);
        good("if 1{if 1{dig}else{dig}}else{dig}", 5);
    }

    private static void howMany() {
        due.says("THE TAPE is a PROGRAM: how many S it has (those within others, too).");
        good("aim 1", 1);
        good("if 1{dig}", 2);
        good("if 1{dig}else{dig}", 3);
        good("if 1{if 1{if 1{if 1{dig}}}}", 5);
        good("while 1{while 1{dig dig}dig}dig", 6);
        good("burn 1,1 until 1 aim 1 dock free dig make give still shed claim wait", 12);
    }

    /** A TUG with 77 of FUEL is asked whether an E is not 0. */
    private static boolean isTrue(String e) {
        RockTugs x = new RockTugs();
        x.rock(0, 0, 0, 1, 0);
        x.tug(0, 0, 0, 77);
        due.is(e, Due.program(x, 0, "if " + e + "{aim 1}else{aim 2}"), 3);
        x.send(0, 0);
        x.run(2);
        return x.has(0, 11) == 1;
    }

    private static void yes(String e) {
        due.is(e, isTrue(e) ? 1 : 0, 1);
    }

    private static void no(String e) {
        due.is(e, isTrue(e) ? 1 : 0, 0);
    }

    private static void wrapping() {
        due.says("Ints wrap;");
        yes("65536*32767+65535>0");
        no("65536*32767+65536>0");
        yes("65536*32768<0");
        yes("65536*32768=-(65536*32768)");
        yes("65536*32768-1>0");
        yes("65536*65536=0");
        yes("99999*99999/65536=21512");
        yes("-(65536*32768)<0");
        yes("65536*32768/-1=65536*32768");
    }

    private static void dividing() {
        due.says("/ cuts towards 0, and is 0 by 0");
        yes("7/2=3");
        yes("-7/2=-3");
        yes("7/-2=-3");
        yes("-7/-2=3");
        yes("1/2=0");
        yes("-1/2=0");
        yes("1/0=0");
        yes("-1/0=0");
        yes("0/0=0");
        yes("5/(3-3)=0");
        yes("9/0+4=4");
        yes("0/5=0");
    }

    private static void truths() {
        due.says("tests, & | ! give 1 or 0 (what is not 0 is true; both sides are worked out).");
        yes("(7&9)=1");
        yes("(-1&-1)=1");
        yes("(7|0)=1");
        yes("(0|-7)=1");
        yes("(7|9)=1");
        yes("(0|0)=0");
        yes("(7&0)=0");
        yes("(0&7)=0");
        yes("(0&0)=0");
        yes("!0=1");
        yes("!1=0");
        yes("!-1=0");
        yes("!7=0");
        yes("!!7=1");
        yes("(3<4)=1");
        yes("(3<3)=0");
        yes("(4<3)=0");
        yes("(-4<-3)=1");
        yes("(3=3)=1");
        yes("(3=4)=0");
        yes("(4>3)=1");
        yes("(3>3)=0");
        yes("(3>4)=0");
        yes("-1");
        yes("2");
        no("0");
        yes("65536*32768");
        no("65536*65536");
    }

    private static void binding() {
        due.says("E, the loosest first: AND { | AND }; AND: TEST { & TEST }");
        yes("1|0&0");
        no("(1|0)&0");
        yes("0&0|1");
        no("0&(0|1)");
        yes("1&2=2");
        no("(1&2)=2");
        yes("2+1=3");
        yes("1<1+1");
        no("(1<1)+0");
        yes("2+3*4=14");
        yes("(2+3)*4=20");
        yes("20-3-4=13");
        yes("20-(3-4)=21");
        yes("100/10/5=2");
        yes("100/(10/5)=50");
        yes("7/2*2=6");
        yes("2*7/2=7");
        yes("-2*3=-6");
        yes("-2-3=-5");
        yes("--2=2");
        yes("2--3=5");
        yes("!0+1=2");
        yes("!(0+1)=0");
        yes("-!0=-1");
    }

    private static void noSuchRock() {
        due.says("(0, if there is no such ROCK; at first it AIMS at ROCK 0)");
        // ROCKS 0, 1 and 2 stand at 10, 20 and 30, with SPEEDS; AIM 3 is one too many
        for (int aim : new int[] {-1, 0, 2, 3, 8, 99999}) {
            for (int name = 0; name < 4; name++) {
                RockTugs x = new RockTugs();
                x.tug(0, 1, 2, 99);
                Due.program(x, 0, (aim < 0 ? "" : "aim " + aim + " ") + "burn " + "xyuv".charAt(name) + ",0");
                x.send(0, 0);
                x.run(1);
                for (int i = 0; i < 3; i++) {
                    x.rock(0, 3 + i, -1 - i, 1, 0);
                    x.speed(i, 4 + i, -5 - i);
                }
                x.run(1);
                int[] ofFirst = {2, -3, 4, -5};
                int sign = name % 2 == 0 ? 1 : -1;
                int want = aim > 2 ? 0 : ofFirst[name] + sign * Math.max(0, aim);
                due.is("xyuv".charAt(name) + " of AIM " + aim, x.has(0, 3), 10 * want);
                due.is("AIMS at", x.has(0, 11), Math.max(0, aim));
            }
        }
        RockTugs none = new RockTugs();
        none.tug(0, 5, 5, 99);
        Due.order(none, 0, "burn x+1,y+u+v");
        none.run(1);
        due.is("no ROCK at all", none.has(0, 3), 10);
        due.is("no ROCK at all", none.has(0, 4), 0);
    }

    private static void sensedAtFirst() {
        due.says("f FUEL, w WATER, m METAL in its hold, t the DAY, k whether it is DOCKED (1, 0), s its WHEEL.");
        RockTugs x = new RockTugs();
        x.rock(1, 0, 0, 5, -3);
        x.stock(0, 0, 4);
        x.tug(2, 0, 0, 30);
        Due.program(x, 0, "burn w+m+k+s,t until k dig still free burn w,s burn k,m burn 0,t-t/10*10");
        x.send(0, 0);
        x.run(2);
        due.is("FREE, on DAY 1", x.has(0, 5), 29);
        x.run(3);
        x.moor(0, 0);
        x.run(3);
        due.is("still costs", x.has(0, 5), 28);
        due.is("FREE again", x.has(0, 9), NONE);
        x.run(1);
        due.is("WATER 4, WHEEL -3", x.has(0, 5), 21);
        x.run(1);
        due.is("not DOCKED, no METAL", x.has(0, 5), 21);
        x.run(1);
        due.is("DAY 10", x.has(0, 5), 21);
        due.is("TODAY", x.count(11), 11);
        RockTugs docked = new RockTugs();
        docked.rock(0, 0, 0, 5, 0);
        docked.tug(0, 0, 0, 5);
        docked.moor(0, 0);
        Due.order(docked, 0, "if k=1{aim 5}");
        docked.run(1);
        due.is("1 if DOCKED", docked.has(0, 11), 5);
        due.says("PLACE and SPEED of the ROCK that it AIMS at less its own");
        RockTugs moves = new RockTugs();
        moves.rock(0, 100, 200, 5, 0);
        moves.speed(0, 33, -44);
        moves.tug(0, 7, 9, 99);
        Due.program(moves, 0, "burn 3,-4 burn u-2,v-2 burn x,y");
        moves.send(0, 0);
        moves.run(3);
        // u is 33 less 30, v -44 less -40
        due.is("u less its own", moves.has(0, 3), 30 + 10);
        due.is("v less its own", moves.has(0, 4), -40 - 60);
        RockTugs y = new RockTugs();
        y.tug(0, 0, 0, 5);
        Due.order(y, 0, "if f=5{aim 5}if t=1{aim 6}");
        y.run(1);
        due.is("FUEL and DAY", y.has(0, 11), 6);
    }
}
