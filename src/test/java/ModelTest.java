import java.lang.reflect.Method;
import java.util.ArrayList;
import java.util.Arrays;
import java.util.HashMap;
import java.util.List;
import java.util.Map;
import java.util.Random;
import java.util.TreeMap;

/** Long runs of calls, drawn by fixed seeds, on the program and on the Model: every answer must be the same. */
public final class ModelTest {
    private static final int EDGE = 9999999;
    private static final Map<String, Method> FACE = new HashMap<>();
    private static final String[] NAMES = ("run run run run run run run run run run run run run run run run run run send send send send send send send send send send program program program"
        + " moor moor moor tug rock sun speed speed stock stock stock stock lay told isOf weigh weigh learnt is dark has feed trim rule rule known patch patch miss miss"
        + " contract contract contract about paid window window window window window tour tour tour leg tell check rows keep sheet mark mark copy copy count rare rare").split(" ");
    /** Calls that undo much come seldom. */
    private static final String[] RARE = {"shut", "back", "back", "sheet", "lay"};

    private final Random random;
    private final RockTugs sky = new RockTugs();
    private final Model model = new Model();
    private final List<String> log = new ArrayList<>();
    private static final Map<String, Integer> seen = new TreeMap<>();
    private int calls;
    private boolean wrong;

    private ModelTest(long seed) {
        // seeds that lie side by side would draw alike at first
        random = new Random(seed * 0x9E3779B97F4A7C15L);
    }

    public static void main(String[] args) {
        for (Method m : RockTugs.class.getDeclaredMethods()) FACE.put(m.getName(), m);
        int runs = args.length > 0 ? Integer.parseInt(args[0]) : 400;
        long first = args.length > 1 ? Long.parseLong(args[1]) : 1;
        int bad = 0;
        long answers = 0;
        for (long seed = first; seed < first + runs && bad < 3; seed++) {
            ModelTest one = new ModelTest(seed);
            if (seed % 4 == 0) one.travel();
            else if (seed % 16 == 1) one.beWild();
            else if (seed % 8 == 3) one.work();
            else one.live();
            answers += one.calls;
            if (!one.wrong) continue;
            bad++;
            System.out.println("ModelTest: seed " + seed);
            for (String line : one.log) System.out.println("  " + line);
        }
        if (args.length > 2) System.out.println(seen);
        System.out.println("ModelTest: " + runs + " runs, " + answers + " answers, " + bad + " runs wrong");
        if (bad != 0 || answers == 0) System.exit(1);
    }

    private void live() {
        begin();
        int many = 100 + random.nextInt(200);
        for (int i = 0; i < many && !wrong; i++) any(NAMES[random.nextInt(NAMES.length)]);
        look();
    }

    /** TUGS that dig, bring, still and claim among few ROCKS side by side, by PROGRAMS that all stand. */
    private void work() {
        int[] kinds = {3, 1, 2, random.nextInt(4), random.nextInt(4)};
        for (int kind : kinds) call("rock", kind, random.nextInt(60), random.nextInt(60), 1 + random.nextInt(500), random.nextInt(61) - 30);
        for (int i = 0; i < 5; i++) {
            call("stock", i, 0, random.nextInt(3) == 0 ? 9990 + random.nextInt(10) : random.nextInt(200));
            call("stock", i, 1, random.nextInt(3) == 0 ? 9990 + random.nextInt(10) : random.nextInt(200));
        }
        for (int i = 0; i < 4; i++) {
            call("tug", random.nextInt(4), random.nextInt(60), random.nextInt(60), random.nextInt(3) == 0 ? 990 + random.nextInt(10) : random.nextInt(60));
            call("moor", i, random.nextInt(5));
            order(i);
        }
        call("rule", 0, random.nextBoolean() ? 1 + random.nextInt(30) : 1000);
        for (int i = 0; i < 90 && !wrong; i++) {
            int tug = random.nextInt(4);
            int today = model.call("count", 11);
            switch (random.nextInt(16)) {
                case 0: call("contract", random.nextInt(2), 1 + random.nextInt(20), 0, today + random.nextInt(40), random.nextInt(10000)); break;
                case 1: call("contract", random.nextInt(2), 1 + random.nextInt(99), random.nextInt(5), today + random.nextInt(12), random.nextInt(10000)); break;
                case 2: call("speed", random.nextInt(5), random.nextInt(31) - 15, random.nextInt(31) - 15); break;
                case 3: any(random.nextBoolean() ? "keep" : "patch"); break;
                case 4: call(random.nextInt(4) == 0 ? "back" : "paid"); break;
                case 5: order(tug); break;
                case 6: case 7: case 8: case 9: case 10: call("moor", tug, random.nextBoolean() ? 0 : 1 + random.nextInt(4)); break;
                default: call("run", 1 + random.nextInt(4));
            }
            call("has", tug, 5 + random.nextInt(9));
            call("told", random.nextInt(5), 6 + random.nextInt(7));
            call("about", random.nextInt(1 + model.call("count", 7)), random.nextInt(3));
        }
        look();
    }

    /** Mostly: wherever it is moored, it does some acts there and is FREE again. */
    private void order(int tug) {
        String[] acts = {"dig", "dig", "give", "give", "make", "still", "still", "shed", "claim"};
        String[] more = {"wait", "dock", "burn 0,0", "burn 1,-1", "burn -t,s", "until t/3*3=t", "if w+m>9{free aim 0 dock give}", "aim 0", "aim 3"};
        StringBuilder text = new StringBuilder("while 1{until k");
        for (int i = 2 + random.nextInt(4); i > 0; i--) text.append(' ').append(acts[random.nextInt(acts.length)]);
        if (random.nextInt(3) == 0) text.append(' ').append(more[random.nextInt(more.length)]);
        int program = random.nextInt(4);
        call("trim", 0);
        write(text.append(" free}").toString());
        call("program", program);
        call("send", tug, program);
    }

    /** Arguments from the ends of all ranges, of ints, too: no call throws, whatever it is given. */
    private void beWild() {
        begin();
        int[] ends = {Integer.MIN_VALUE, Integer.MIN_VALUE + 1, Integer.MAX_VALUE, -EDGE - 1, -EDGE, EDGE, EDGE + 1, 99999, 100000, -1, 0, 0, 1, 2, 3, 7, 8, 10, 13,
            30, 31, 40, 60, 120, 999, 1000, 2000, 3000, 20000, Model.NONE, 65536};
        List<String> names = new ArrayList<>(FACE.keySet());
        names.removeIf(name -> java.lang.reflect.Modifier.isPrivate(FACE.get(name).getModifiers()));
        names.sort(null);
        for (int i = 0; i < 300 && !wrong; i++) {
            String name = names.get(random.nextInt(names.size()));
            int[] a = new int[FACE.get(name).getParameterCount()];
            for (int j = 0; j < a.length; j++) a[j] = ends[random.nextInt(ends.length)];
            call(name, a);
        }
        look();
    }

    /** Mostly tours, among few ROCKS, so that many are alike. */
    private void travel() {
        int many = 3 + random.nextInt(4);
        for (int i = 0; i < many; i++) call("rock", random.nextInt(2), 0, 0, 1, 0);
        for (int i = 0; i < many; i++) call("stock", i, 2, random.nextInt(4));
        for (int round = 0; round < 4 && !wrong; round++) {
            int windows = 6 + random.nextInt(11);
            for (int i = 0; i < windows; i++) {
                int open = in(0, 30);
                int from = random.nextInt(many);
                int to = (from + 1 + random.nextInt(many - 1)) % many;
                call("window", from, to, open, open + in(0, 30), in(0, random.nextBoolean() ? 9 : 99), in(1, 9));
            }
            for (int i = 0; i < 8; i++) {
                int t = in(0, 20);
                call("tour", in(0, many - 1), t, random.nextBoolean() ? in(0, 99) : in(0, 999), t + in(1, 60), random.nextBoolean() ? in(1, 20000) : in(1, 200));
                rows();
                call("leg", in(0, 5));
                call("stock", in(0, many - 1), 2, random.nextInt(4));
            }
            call("rule", 2, in(0, 50));
            any(random.nextBoolean() ? "keep" : "back");
            call("shut");
        }
        look();
    }

    private int call(String name, int... a) {
        if (wrong || calls >= 512) return 0;
        calls++;
        int want = model.call(name, a);
        int got;
        try {
            Object[] boxed = Arrays.stream(a).boxed().toArray();
            got = (Integer) FACE.get(name).invoke(sky, boxed);
        } catch (ReflectiveOperationException e) {
            e.printStackTrace(System.out);
            got = Integer.MIN_VALUE;
        }
        String call = name + Arrays.toString(a);
        seen.merge(name + (want <= Model.BAD + 0 && want > Model.BAD - 20 ? " " + want : ""), 1, Integer::sum);
        log.add(call + " = " + got);
        if (got != want) {
            wrong = true;
            log.add("due is " + want);
        }
        return want;
    }

    /** A number from a range, now and then one at its ends or just beyond. */
    private int in(int least, int most) {
        int way = random.nextInt(40);
        if (way == 0) return least - 1;
        if (way == 1) return most + 1;
        if (way == 2) return least;
        if (way == 3) return most;
        if (way == 4 && random.nextInt(4) == 0) return random.nextInt();
        return least + random.nextInt(most - least + 1);
    }

    private int place() {
        int way = random.nextInt(30);
        if (way == 0) return in(-EDGE, EDGE);
        if (way < 10) return in(-3000, 3000);
        return in(-150, 150);
    }

    private int speed() {
        return random.nextInt(20) == 0 ? in(-EDGE, EDGE) : in(-60, 60);
    }

    private int rocks() {
        return Math.max(0, model.call("count", 1) - 1);
    }

    private int tugs() {
        return Math.max(0, model.call("count", 2) - 1);
    }

    private void begin() {
        for (int i = random.nextInt(4); i > 0; i--) any("sun");
        for (int i = 2 + random.nextInt(6); i > 0; i--) any("rock");
        for (int i = 1 + random.nextInt(4); i > 0; i--) any("tug");
        for (int i = 0; i < 4; i++) {
            any("program");
            any("stock");
            any("moor");
        }
        for (int i = 0; i <= rocks(); i++) call("stock", i, 2, in(0, 99));
        for (int i = random.nextInt(16); i > 0; i--) any("window");
        for (int i = random.nextInt(3); i > 0; i--) call("sheet", in(0, 1), in(5, 40));
    }

    private void any(String name) {
        switch (name) {
            case "rare": any(RARE[random.nextInt(RARE.length)]); break;
            case "sun": call(name, place(), place(), in(0, 999)); break;
            case "rock": call(name, in(0, 3), place(), place(), random.nextBoolean() ? in(1, 99) : in(1, 99999), random.nextBoolean() ? in(-20, 20) : in(-99, 99)); break;
            case "speed": call(name, in(0, rocks()), speed(), speed()); break;
            case "stock": call(name, in(0, rocks()), in(0, 2), random.nextInt(4) == 0 ? in(0, 9999) : in(0, 999)); break;
            case "lay": case "sheet": case "mark": case "copy": sheets(name); break;
            case "told": call(name, in(0, rocks()), in(0, 12)); break;
            case "isOf": call(name, in(0, rocks()), in(0, 3)); break;
            case "weigh": {
                int rock = in(0, rocks());
                int tons = Math.max(1, model.call("told", rock, 5));
                call(name, rock, tons - in(-2, tons), tons + in(-2, 999));
                break;
            }
            case "learnt": call(name, in(0, rocks()), in(0, 1)); break;
            case "tug": call(name, in(0, 3), place(), place(), in(0, 999)); break;
            case "is": call(name, in(0, tugs()), in(0, 3)); break;
            case "moor": call(name, in(0, tugs()), in(0, rocks())); break;
            case "dark": call(name, in(0, tugs()), in(0, 1)); break;
            case "has": call(name, in(0, tugs()), in(0, 13)); break;
            case "feed": call(name, random.nextInt(), random.nextInt(), random.nextInt()); break;
            case "trim": call(name, in(0, 120)); break;
            case "program": program(); break;
            case "send": call(name, in(0, tugs()), in(0, 3)); break;
            case "run": call(name, random.nextInt(8) == 0 ? in(1, 30) : in(1, 4)); break;
            case "rule": {
                int which = in(0, 2);
                call(name, which, which == 0 ? random.nextBoolean() ? in(1, 2000) : in(1, 99999) : which == 1 ? in(0, 999) : in(0, 50));
                break;
            }
            case "known": call(name, in(0, tugs()), in(0, 5)); break;
            case "patch": call(name, in(0, tugs()), in(0, 4)); break;
            case "miss": call(name, body(), body(), in(0, 60), in(0, 1)); break;
            default: contractsAndTours(name);
        }
    }

    private int body() {
        return random.nextBoolean() ? in(0, rocks()) : 10 + in(0, tugs());
    }

    private void sheets(String name) {
        switch (name) {
            case "lay": call(name, in(0, 1)); break;
            case "sheet": call(name, in(0, 1), in(0, 40)); break;
            case "mark": call(name, in(0, 1), in(0, 20), in(-100, 2000)); break;
            default: call(name, in(0, 1), in(0, 20), in(0, 1), in(0, 20), in(0, 15));
        }
    }

    private void contractsAndTours(String name) {
        switch (name) {
            case "contract": {
                int today = model.call("count", 11);
                call(name, in(0, 1), random.nextBoolean() ? in(1, 30) : in(1, 999), in(0, rocks()), today + in(0, 60), in(0, 9999));
                break;
            }
            case "about": call(name, in(0, 7), in(0, 2)); break;
            case "window": {
                int open = in(0, 60);
                call(name, in(0, rocks()), in(0, rocks()), open, open + in(0, 40), in(0, 200), in(1, 30));
                break;
            }
            case "tour": {
                int t = in(0, 40);
                call(name, in(0, rocks()), t, random.nextBoolean() ? in(0, 999) : in(0, 60), t + in(0, 200), random.nextBoolean() ? in(1, 2000) : in(1, 60));
                break;
            }
            case "leg": call(name, in(0, 5)); break;
            case "tell": call(name, in(0, 20)); break;
            case "rows": rows(); break;
            case "count": call(name, in(0, 11)); break;
            default: call(name);
        }
    }

    /** ROWS that are mostly right, by going through the WINDOWS as the Model tells them. */
    private void rows() {
        call("check");
        List<Integer> right = model.rows();
        int many = random.nextInt(3) == 0 ? random.nextInt(right.size() + 1) : right.size();
        for (int i = 0; i < many; i++) call("tell", right.get(i) + (random.nextInt(20) == 0 ? 1 : 0));
        if (random.nextInt(5) == 0) call("tell", 0);
        call("check");
    }

    private void program() {
        String text = acts(0, 1 + random.nextInt(4));
        for (int i = 0; i < 20 && text.length() > 120; i++) text = acts(1 + i / 8, 1 + random.nextInt(3));
        if (text.length() > 120) text = text.substring(0, 120);
        for (int i = random.nextInt(3) == 0 ? 1 + random.nextInt(2) : 0; i > 0; i--) text = spoilt(text);
        call("trim", 0);
        write(text);
        int s = call("program", in(0, 3));
        seen.merge(s > 0 ? "good text" : "faulty text", 1, Integer::sum);
    }

    private void write(String text) {
        byte[] bytes = new byte[120];
        for (int i = 0; i < text.length() && i < 120; i++) bytes[i] = (byte) text.charAt(i);
        for (int i = 0; i < text.length() && i < 120; i += 12) call("feed", four(bytes, i), four(bytes, i + 4), four(bytes, i + 8));
        call("trim", text.length());
        log.add("text \"" + text + "\"");
    }

    private static int four(byte[] bytes, int at) {
        return (bytes[at] & 255) << 24 | (bytes[at + 1] & 255) << 16 | (bytes[at + 2] & 255) << 8 | bytes[at + 3] & 255;
    }

    private String spoilt(String text) {
        if (text.isEmpty()) return "(";
        int at = random.nextInt(text.length());
        String signs = "{}()!-|&<=>+*/, 0123456789xyuvfwmtksaz;A\u0000\u00ff";
        char put = signs.charAt(random.nextInt(signs.length()));
        switch (random.nextInt(5)) {
            case 0: return text.substring(0, at) + text.substring(at + 1);
            case 1: return text.substring(0, at) + put + text.substring(at + 1);
            case 2: return (text.substring(0, at) + put + text.substring(at)).substring(0, Math.min(120, text.length() + 1));
            case 3: return text.substring(0, at);
            default: {
                String more = ("!-({".charAt(random.nextInt(4)) + "").repeat(1 + random.nextInt(9));
                String longer = text.substring(0, at) + more + text.substring(at);
                return longer.substring(0, Math.min(120, longer.length()));
            }
        }
    }

    private String blank() {
        return random.nextInt(6) == 0 ? " ".repeat(1 + random.nextInt(2)) : "";
    }

    private String acts(int depth, int many) {
        StringBuilder all = new StringBuilder(blank());
        for (int i = 0; i < many; i++) {
            String act = act(depth);
            boolean behindWord = all.length() > 0 && Character.isLetterOrDigit(all.charAt(all.length() - 1));
            all.append(behindWord ? " " : blank()).append(act);
        }
        return all.append(blank()).toString();
    }

    private String act(int depth) {
        int way = random.nextInt(depth < 4 ? 18 : 14);
        switch (way) {
            case 0: return "aim " + blank() + (random.nextInt(6) == 0 ? random.nextInt(99999) : random.nextInt(8));
            case 1: case 2: return "burn " + e(1) + blank() + "," + e(1);
            case 3: return "dock";
            case 4: return "free";
            case 5: return "dig";
            case 6: return "make";
            case 7: return "give";
            case 8: return "still";
            case 9: return "shed";
            case 10: return "claim";
            case 11: return "wait";
            case 12: return "until " + e(0);
            case 13: return random.nextBoolean() ? "dock" : "dig";
            case 14: return "if " + e(0) + blank() + "{" + acts(depth + 1, 1 + random.nextInt(2)) + "}";
            case 15: return "if " + e(0) + "{" + acts(depth + 1, 1) + "}" + blank() + "else" + blank() + "{" + acts(depth + 1, 1) + "}";
            default: return "while " + e(0) + blank() + "{" + acts(depth + 1, 1 + random.nextInt(2)) + "}";
        }
    }

    private String e(int depth) {
        if (random.nextInt(3) == 0) return part(depth);
        String[] joins = {"|", "&", "<", "=", ">", "+", "-", "*", "/"};
        String all = part(depth);
        boolean tested = false;
        for (int i = random.nextInt(3); i >= 0; i--) {
            String join = joins[random.nextInt(joins.length)];
            if ("<=>".contains(join)) {
                if (tested) continue;
                tested = true;
            }
            if ("|&".contains(join)) tested = false;
            all = all + blank() + join + blank() + part(depth + 1);
        }
        return all;
    }

    private String part(int depth) {
        int way = random.nextInt(12);
        if (way < 5 || depth > 3) return "" + "xyuvfwmtks".charAt(random.nextInt(10));
        if (way < 9) return "" + (random.nextInt(4) == 0 ? random.nextInt(100000) : random.nextInt(20));
        if (way == 9) return "!" + part(depth + 1);
        if (way == 10) return "-" + part(depth + 1);
        return "(" + e(depth + 1) + ")";
    }

    /** All that can be asked, at the end. */
    private void look() {
        for (int what = 0; what < 12; what++) call("count", what);
        for (int r = 0; r <= rocks(); r++) {
            for (int what = 1; what < 13; what++) call("told", r, what);
        }
        for (int t = 0; t <= tugs(); t++) {
            for (int what = 1; what < 14; what++) call("has", t, what);
            for (int what = 0; what < 6; what++) call("known", t, what);
            for (int what = 0; what < 5; what++) call("patch", t, what);
        }
        call("paid");
        for (int i = 0; i < 6; i++) call("leg", i);
        for (int i = 0; i < 8; i++) call("about", i, 1);
    }
}
