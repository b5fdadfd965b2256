import java.util.ArrayList;
import java.util.HashMap;
import java.util.HashSet;
import java.util.LinkedHashSet;
import java.util.List;
import java.util.Map;
import java.util.Random;
import java.util.Set;

/**
 * FAULTS by their definition. The grammar stands here rule by rule as the document has it, with how
 * much is open written into the names; beginnings of TEXTS are read by all ways of the rules at once
 * (Earley's way), which tells of every word and sign whether some TEXT goes on with it. Beginnings
 * are drawn by fixed seeds, and every word and sign is tried behind each.
 */
public final class FaultTest {
    private static final Due due = new Due("FaultTest");
    private static final int MOST_BRACES = 4, MOST_BRACKETS = 8, MOST_SIGNS = 8, MOST_BYTES = 120;
    private static final String ACTS = " aim burn dock free dig make give still shed claim wait until if while ";
    private static final String[] WORDS = ("aim burn dock free dig make give still shed claim wait until if while else "
        + "x y u v f w m t k s a z xx aims doc 0 7 42 99999 00000 100000 { } ( ) ! - + * / < = > & | , . ; A ~").split(" ");

    /** What a walk likes to go on with. */
    private static final String[] LIKED = {"while if { }", "( ! -", "( ! - )", "if else { } wait", "+ * < | & = , ! (", "while if {"};

    /** A rule: a name becomes a row of names and words. */
    private record Rule(String name, String[] row) { }

    /** A rule, how far it is read, and where that began. */
    private record Item(Rule rule, int read, int from) {
        String next() {
            return read < rule.row.length ? rule.row[read] : null;
        }
    }

    /** The ways in which a beginning can be read: one set behind each of its words. */
    private static final class Reading {
        final List<Set<Item>> sets = new ArrayList<>();

        Reading() {
            Set<Item> first = new LinkedHashSet<>();
            for (Rule rule : rules("TEXT")) first.add(new Item(rule, 0, 0));
            sets.add(first);
            fill();
        }

        private Set<Item> last() {
            return sets.get(sets.size() - 1);
        }

        boolean goesOnWith(String word) {
            return last().stream().anyMatch(item -> fits(item.next(), word));
        }

        boolean mayEnd() {
            return last().stream().anyMatch(item -> item.next() == null && item.from == 0 && item.rule.name.equals("TEXT"));
        }

        void add(String word) {
            Set<Item> set = new LinkedHashSet<>();
            for (Item item : last()) {
                if (fits(item.next(), word)) set.add(new Item(item.rule, item.read + 1, item.from));
            }
            sets.add(set);
            fill();
        }

        private void fill() {
            int here = sets.size() - 1;
            List<Item> open = new ArrayList<>(last());
            for (int i = 0; i < open.size(); i++) {
                Item item = open.get(i);
                List<Item> more = new ArrayList<>();
                if (item.next() == null) {
                    for (Item waits : sets.get(item.from)) {
                        if (item.rule.name.equals(waits.next())) more.add(new Item(waits.rule, waits.read + 1, waits.from));
                    }
                } else {
                    for (Rule rule : rules(item.next())) more.add(new Item(rule, 0, here));
                }
                for (Item one : more) {
                    if (last().add(one)) open.add(one);
                }
            }
        }
    }

    private static final Map<String, List<Rule>> KNOWN = new HashMap<>();

    public static void main(String[] args) {
        due.says("FAULT: the first byte of the first word or sign with which no TEXT goes on");
        int many = args.length > 0 ? Integer.parseInt(args[0]) : 60;
        long first = args.length > 1 ? Long.parseLong(args[1]) : 1;
        for (long seed = first; seed < first + many; seed++) walk(new Random(seed * 0x9E3779B97F4A7C15L), LIKED[(int) (seed % LIKED.length)].split(" "));
        due.end();
    }

    private static boolean fits(String due, String word) {
        if (due == null) return false;
        if (due.equals("NUMBER")) return word.matches("[0-9]{1,5}");
        if (due.equals("NAME")) return word.matches("[xyuvfwmtks]");
        return due.equals(word);
    }

    /** What a name of the grammar can become; a word or sign becomes nothing. */
    private static List<Rule> rules(String name) {
        return KNOWN.computeIfAbsent(name, FaultTest::newRules);
    }

    private static List<Rule> newRules(String name) {
        String[] parts = name.split("_");
        int one = parts.length > 1 ? Integer.parseInt(parts[1]) : 0;
        int two = parts.length > 2 ? Integer.parseInt(parts[2]) : 0;
        String open = "_" + one + "_" + two;
        switch (parts[0]) {
            case "TEXT": return rules(name, "ROW_0");
            case "ROW": return rules(name, "S_" + one, "S_" + one + " ROW_" + one);
            case "S": return acts(name, one);
            // the fifth { never comes: this has no rule
            case "BLOCK": return one < MOST_BRACES ? rules(name, "{ ROW_" + (one + 1) + " }") : List.of();
            case "E": return rules(name, "AND" + open, "AND" + open + " | E" + open);
            case "AND": return rules(name, "TEST" + open, "TEST" + open + " & AND" + open);
            case "TEST": return rules(name, "SUM", "SUM < SUM", "SUM = SUM", "SUM > SUM", open);
            case "SUM": return rules(name, "TERM", "SUM + TERM", "SUM - TERM", open);
            case "TERM": return rules(name, "PART", "TERM * PART", "TERM / PART", open);
            case "PART": return parts(name, one, two);
            default: return List.of();
        }
    }

    private static List<Rule> acts(String name, int braces) {
        List<Rule> all = new ArrayList<>(rules(name, "aim NUMBER", "burn E_0_0 , E_0_0", "dock", "free", "dig", "make", "give"));
        all.addAll(rules(name, "still", "shed", "claim", "wait", "until E_0_0"));
        String block = " BLOCK_" + braces;
        all.addAll(rules(name, "if E_0_0" + block, "if E_0_0" + block + " else" + block, "while E_0_0" + block));
        return all;
    }

    private static List<Rule> parts(String name, int brackets, int signs) {
        List<Rule> all = new ArrayList<>(rules(name, "NUMBER", "NAME"));
        String signed = "PART_" + brackets + "_" + (signs + 1);
        if (signs < MOST_SIGNS) all.addAll(rules(name, "! " + signed, "- " + signed));
        if (brackets < MOST_BRACKETS) all.addAll(rules(name, "( E_" + (brackets + 1) + "_" + signs + " )"));
        return all;
    }

    /** Rows, or, if the last begins with _, rows whose names get that behind them. */
    private static List<Rule> rules(String name, String... rows) {
        List<Rule> all = new ArrayList<>();
        String last = rows[rows.length - 1];
        boolean open = last.startsWith("_");
        for (int i = 0; i < rows.length - (open ? 1 : 0); i++) {
            String[] row = rows[i].split(" ");
            for (int j = 0; open && j < row.length; j++) {
                if (row[j].length() > 1) row[j] += last;
            }
            all.add(new Rule(name, row));
        }
        return all;
    }

    private static boolean isWord(String word) {
        return word.matches("[a-z]+|[0-9]+");
    }

    private static void walk(Random random, String[] liked) {
        Reading reading = new Reading();
        StringBuilder text = new StringBuilder();
        boolean behindWord = false;
        int many = 0;
        for (int i = 0; i < MOST_BYTES; i++) {
            text.append(" ".repeat(random.nextInt(8) == 0 ? 1 : 0));
            int behind = behindWord && !text.toString().endsWith(" ") ? 1 : 0;
            if (text.length() + 8 > MOST_BYTES) return;
            int answer = Due.program(new RockTugs(), 0, text.toString());
            due.is("\"" + text + "\"", answer, reading.mayEnd() ? many : -100 - text.length());
            List<String> next = new ArrayList<>();
            for (String word : WORDS) {
                tryWord(reading, text.toString(), word, behind == 1);
                if (reading.goesOnWith(word)) next.add(word);
            }
            String word = drawn(random, next, liked);
            if (isWord(word) && behind == 1) text.append(' ');
            text.append(word);
            reading.add(word);
            behindWord = isWord(word);
            if (ACTS.contains(" " + word + " ")) many++;
        }
    }

    private static void tryWord(Reading reading, String text, String word, boolean glued) {
        boolean needsBlank = glued && isWord(word);
        int place = text.length() + (needsBlank ? 1 : 0);
        String longer = text + (needsBlank ? " " : "") + word;
        int answer = Due.program(new RockTugs(), 0, longer);
        boolean goesOn = answer > 0 || answer == -100 - longer.length();
        if (reading.goesOnWith(word)) due.is("\"" + longer + "\" has no fault ahead of its end", goesOn ? 1 : 0, 1);
        else due.is("\"" + longer + "\"", answer, -100 - place);
        if (!needsBlank) return;
        // right behind another word: one longer word, or one that lacks its blank
        boolean letters = Character.isLetter(word.charAt(0));
        if (letters != Character.isLetter(text.charAt(text.length() - 1))) due.is("\"" + text + word + "\"", Due.program(new RockTugs(), 0, text + word), -100 - text.length());
    }

    private static String drawn(Random random, List<String> next, String[] liked) {
        Set<String> likedOnes = new HashSet<>(List.of(liked));
        List<String> better = new ArrayList<>(next);
        better.removeIf(word -> !likedOnes.contains(word));
        if (!better.isEmpty() && random.nextInt(5) > 0) return better.get(random.nextInt(better.size()));
        return next.get(random.nextInt(next.size()));
    }
}
