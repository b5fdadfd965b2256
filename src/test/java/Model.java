import java.io.ByteArrayInputStream;
import java.io.ByteArrayOutputStream;
import java.io.IOException;
import java.io.ObjectInputStream;
import java.io.ObjectOutputStream;
import java.io.Serializable;
import java.util.ArrayDeque;
import java.util.ArrayList;
import java.util.Arrays;
import java.util.Comparator;
import java.util.Deque;
import java.util.HashSet;
import java.util.List;
import java.util.Set;

/**
 * The document a second time, written in another way and without any thrift: trees that are
 * walked, texts checked by a stack of what may come, tours listed and sorted, images written out.
 * ModelTest holds the program against it.
 */
final class Model {
    static final int BAD = -1000000001, NO = -1000000002, FULL = -1000000003, SPENT = -1000000004, NONE = -1000000005;
    static final int NOTHING = -1000000011, INDEX = -1000000013, SIZE = -1000000014;

    /** What a refusal answers. */
    static final class Refusal extends RuntimeException {
        private static final long serialVersionUID = 1;
        final int answer;

        Refusal(int answer) {
            this.answer = answer;
        }
    }

    record Sun(int x, int y, int pull) implements Serializable { }

    static class Thing implements Serializable {
        private static final long serialVersionUID = 1;
        long x, y, u, v;
    }

    static final class Rock extends Thing {
        private static final long serialVersionUID = 1;
        int kind, tons, spin, worth, owner = NONE, restU, restV, low = 1, high = 99999;
        int[] stock = {0, 0};
    }

    static final class Frame implements Serializable {
        private static final long serialVersionUID = 1;
        final List<Node> block;
        int next;

        Frame(List<Node> block) {
            this.block = block;
        }
    }

    static final class Tug extends Thing {
        private static final long serialVersionUID = 1;
        int kind, fuel, wheel, aim, burnt, made, program = NONE, number;
        int[] hold = {0, 0};
        Rock dock;
        boolean dark;
        ArrayDeque<Frame> frames = new ArrayDeque<>();
        Report known;
    }

    record Report(Tug tug, long x, long y, long u, long v, int fuel, int day, long due) implements Serializable { }

    record Order(Tug tug, int program, long due) implements Serializable { }

    record Claim(Tug tug, Rock rock, long due) implements Serializable { }

    static final class Contract implements Serializable {
        private static final long serialVersionUID = 1;
        int what, tons, day, pay, got, met = NONE;
        boolean isVoid;
        Rock rock;
    }

    record Window(int number, int from, int to, int open, int close, int fuel, int days) implements Serializable { }

    record Leg(int window, int left, int ends, int fuel) implements Serializable { }

    /** A node of a PROGRAM: an S or an E, by its word or sign. */
    record Node(String word, int value, List<Node> parts, List<Node> then, List<Node> other) implements Serializable { }

    static final class World implements Serializable {
        private static final long serialVersionUID = 1;
        List<Sun> suns = new ArrayList<>();
        List<Rock> rocks = new ArrayList<>();
        List<Tug> tugs = new ArrayList<>();
        List<List<Node>> programs = new ArrayList<>(Arrays.asList(List.of(), List.of(), List.of(), List.of()));
        List<Order> orders = new ArrayList<>();
        List<Report> reports = new ArrayList<>();
        List<Claim> claims = new ArrayList<>();
        List<Contract> contracts = new ArrayList<>();
        List<Window> windows = new ArrayList<>();
        List<Leg> tour;
        int[] rules = {1000, 100, 10};
        int today;
    }

    private World w = new World();
    private byte[] image;
    private String tape = "";
    private List<Integer> waiting = new ArrayList<>();
    private short[][] sheets = new short[2][];

    // ---- helpers

    private static void need(boolean holds, int otherwise) {
        if (!holds) throw new Refusal(otherwise);
    }

    private static void range(long v, long least, long most) {
        need(v >= least && v <= most, BAD);
    }

    private static void place(int x, int y) {
        range(x, -9999999, 9999999);
        range(y, -9999999, 9999999);
    }

    private static <T> T of(List<T> list, int number) {
        range(number, 0, list.size() - 1);
        return list.get(number);
    }

    private static long clamp(long v, long most) {
        return Math.max(-most, Math.min(most, v));
    }

    private static long far(Thing a, long x, long y) {
        long dx = Math.abs(a.x - x), dy = Math.abs(a.y - y);
        return Math.max(dx, dy) + Math.min(dx, dy) / 2;
    }

    private Thing where(Tug t) {
        return t.dock == null ? t : t.dock;
    }

    private static boolean under(int kind, int asked) {
        return asked == 0 || asked == kind || asked == 2 && kind == 3;
    }

    private long due(Tug t) {
        return w.today + 1 + far(where(t), 0, 0) / w.rules[0];
    }

    /** Calls by the name of the face; a refusal is the answer. */
    int call(String name, int... a) {
        try {
            return answer(name, a);
        } catch (Refusal r) {
            return r.answer;
        }
    }

    private int answer(String name, int[] a) {
        switch (name) {
            case "sun": return sun(a[0], a[1], a[2]);
            case "rock": return rock(a);
            case "speed": return speed(a[0], a[1], a[2]);
            case "stock": return stock(a[0], a[1], a[2]);
            case "lay": return lay(a[0]);
            case "told": return told(of(w.rocks, a[0]), a[1]);
            case "isOf": {
                Rock r = of(w.rocks, a[0]);
                range(a[1], 0, 3);
                return under(r.kind, a[1]) ? 1 : 0;
            }
            case "weigh": return weigh(a[0], a[1], a[2]);
            case "learnt": {
                Rock r = of(w.rocks, a[0]);
                range(a[1], 0, 1);
                return new int[]{r.low, r.high}[a[1]];
            }
            case "tug": return tug(a);
            case "is": {
                Tug t = of(w.tugs, a[0]);
                range(a[1], 0, 3);
                return under(t.kind, a[1]) ? 1 : 0;
            }
            case "moor": return moor(of(w.tugs, a[0]), of(w.rocks, a[1]));
            case "dark": {
                Tug t = of(w.tugs, a[0]);
                range(a[1], 0, 1);
                int was = t.dark ? 1 : 0;
                t.dark = a[1] == 1;
                return was;
            }
            case "has": return has(of(w.tugs, a[0]), a[1]);
            case "feed": return feed(a);
            case "trim":
                range(a[0], 0, tape.length());
                tape = tape.substring(0, a[0]);
                return a[0];
            case "program": return program(a[0]);
            case "send": return send(a[0], a[1]);
            case "run": return run(a[0]);
            case "rule": {
                range(a[0], 0, 2);
                range(a[1], new int[]{1, 0, 0}[a[0]], new int[]{99999, 9999, 50}[a[0]]);
                int was = w.rules[a[0]];
                w.rules[a[0]] = a[1];
                return was;
            }
            default: return more(name, a);
        }
    }

    private int more(String name, int[] a) {
        switch (name) {
            case "known": {
                Tug t = of(w.tugs, a[0]);
                range(a[1], 0, 5);
                need(t.known != null, NONE);
                Report k = t.known;
                return (int) new long[]{k.x, k.y, k.u, k.v, k.fuel, k.day}[a[1]];
            }
            case "patch": return patch(of(w.tugs, a[0]), a[1]);
            case "miss": return miss(a[0], a[1], a[2], a[3]);
            case "contract": return contract(a);
            case "about": {
                Contract c = of(w.contracts, a[0]);
                range(a[1], 0, 2);
                return new int[]{c.got, c.met, c.met == NONE && !c.isVoid ? 1 : 0}[a[1]];
            }
            case "paid": return w.contracts.stream().filter(c -> c.met != NONE).mapToInt(c -> c.pay).sum();
            case "window": return window(a);
            case "shut": {
                int were = w.windows.size();
                w.windows.clear();
                return were;
            }
            case "tour": return tour(a[0], a[1], a[2], a[3], a[4]);
            case "leg":
                need(a[0] >= 0, BAD);
                need(w.tour != null && a[0] < w.tour.size(), NONE);
                return w.tour.get(a[0]).window;
            case "tell":
                need(waiting.size() < 30, FULL);
                waiting.add(a[0]);
                return waiting.size();
            case "check": return check();
            case "keep":
                image = written();
                return w.today;
            case "back":
                need(image != null, NO);
                w = read();
                return w.today;
            case "sheet":
                range(a[0], 0, 1);
                need(a[1] <= 40, BAD);
                need(a[1] >= 0, SIZE);
                sheets[a[0]] = new short[a[1]];
                return a[1];
            case "mark": {
                range(a[0], 0, 1);
                need(sheets[a[0]] != null, NOTHING);
                need(a[1] >= 0 && a[1] < sheets[a[0]].length, INDEX);
                int was = sheets[a[0]][a[1]];
                sheets[a[0]][a[1]] = (short) a[2];
                return was;
            }
            case "copy": return copy(a[0], a[1], a[2], a[3], a[4]);
            case "count":
                range(a[0], 0, 11);
                return new int[]{w.suns.size(), w.rocks.size(), w.tugs.size(), (int) w.programs.stream().filter(p -> !p.isEmpty()).count(), w.orders.size(),
                    w.reports.size(), w.claims.size(), w.contracts.size(), w.windows.size(), waiting.size(), tape.length(), w.today}[a[0]];
            default: throw new IllegalStateException(name);
        }
    }

    // ---- the sky

    private int sun(int x, int y, int pull) {
        place(x, y);
        range(pull, 0, 999);
        need(w.suns.size() < 3, FULL);
        w.suns.add(new Sun(x, y, pull));
        return w.suns.size() - 1;
    }

    private int rock(int[] a) {
        range(a[0], 0, 3);
        place(a[1], a[2]);
        range(a[3], 1, 99999);
        range(a[4], -99, 99);
        need(w.rocks.size() < 8, FULL);
        Rock r = new Rock();
        r.kind = a[0];
        r.x = a[1];
        r.y = a[2];
        r.tons = a[3];
        r.spin = a[4];
        w.rocks.add(r);
        return w.rocks.size() - 1;
    }

    private int speed(int rock, int u, int v) {
        Rock r = of(w.rocks, rock);
        place(u, v);
        r.u = u;
        r.v = v;
        return 0;
    }

    private int stock(int rock, int what, int v) {
        Rock r = of(w.rocks, rock);
        range(what, 0, 2);
        range(v, 0, what == 2 ? 999 : 9999);
        int was = what == 2 ? r.worth : r.stock[what];
        if (what == 2) r.worth = v;
        else r.stock[what] = v;
        return was;
    }

    private int lay(int sheet) {
        range(sheet, 0, 1);
        need(sheets[sheet] != null, NOTHING);
        int i = 0;
        for (; i < sheets[sheet].length && i < w.rocks.size(); i++) {
            int v = sheets[sheet][i];
            w.rocks.get(i).worth = v < 0 || v > 999 ? 0 : v;
        }
        return i;
    }

    private int told(Rock r, int what) {
        range(what, 0, 12);
        return (int) new long[]{r.kind, r.x, r.y, r.u, r.v, r.tons, r.spin, r.stock[0], r.stock[1], r.worth, r.owner, r.restU, r.restV}[what];
    }

    private int weigh(int rock, int low, int high) {
        Rock r = of(w.rocks, rock);
        range(low, 1, 99999);
        range(high, 1, 99999);
        need(low <= high, BAD);
        need(r.tons >= low && r.tons <= high, NO);
        r.low = Math.max(r.low, low);
        r.high = Math.min(r.high, high);
        return r.high - r.low + 1;
    }

    // ---- tugs

    private int tug(int[] a) {
        range(a[0], 0, 3);
        place(a[1], a[2]);
        range(a[3], 0, 999);
        need(w.tugs.size() < 4, FULL);
        Tug t = new Tug();
        t.kind = a[0];
        t.x = a[1];
        t.y = a[2];
        t.fuel = a[3];
        t.number = w.tugs.size();
        w.tugs.add(t);
        return t.number;
    }

    private boolean berth(Rock r) {
        return r.kind == 3 || w.tugs.stream().noneMatch(t -> t.dock == r);
    }

    private int moor(Tug t, Rock r) {
        need(t.dock == null && berth(r), NO);
        t.dock = r;
        return 1;
    }

    private int has(Tug t, int what) {
        range(what, 0, 13);
        Thing at = where(t);
        int dock = t.dock == null ? NONE : w.rocks.indexOf(t.dock);
        return (int) new long[]{t.kind, at.x, at.y, at.u, at.v, t.fuel, t.hold[0], t.hold[1], t.wheel, dock, t.program, t.aim, t.burnt, t.made}[what];
    }

    private int feed(int[] a) {
        need(tape.length() + 12 <= 120, FULL);
        for (int v : a) {
            for (int shift = 24; shift >= 0; shift -= 8) tape += (char) (v >> shift & 255);
        }
        return tape.length();
    }

    private int program(int number) {
        String text = tape;
        tape = "";
        range(number, 0, 3);
        for (Tug t : w.tugs) {
            if (t.program == number) t.program = NONE;
        }
        Text parsed = new Text(text);
        w.programs.set(number, List.of());
        if (parsed.fault() >= 0) return -100 - parsed.fault();
        w.programs.set(number, parsed.tree());
        return size(w.programs.get(number));
    }

    private static int size(List<Node> block) {
        int sum = 0;
        for (Node s : block) sum += 1 + size(s.then) + size(s.other);
        return sum;
    }

    private int send(int tug, int program) {
        Tug t = of(w.tugs, tug);
        range(program, 0, 3);
        need(!w.programs.get(program).isEmpty(), NO);
        need(w.orders.size() < 30, FULL);
        w.orders.add(new Order(t, program, due(t)));
        return (int) due(t);
    }

    // ---- a day

    private int run(int n) {
        range(n, 1, 30);
        need(w.today + n <= 3000, FULL);
        for (int i = 0; i < n; i++) day();
        return w.today;
    }

    private void day() {
        for (Order o : w.orders) {
            if (o.due != w.today) continue;
            o.tug.program = w.programs.get(o.program).isEmpty() ? NONE : o.program;
            o.tug.frames.clear();
            o.tug.frames.push(new Frame(w.programs.get(o.program)));
        }
        w.orders.removeIf(o -> o.due == w.today);
        for (Report r : w.reports) {
            if (r.due == w.today && (r.tug.known == null || r.tug.known.day < r.day)) r.tug.known = r;
        }
        w.reports.removeIf(r -> r.due == w.today);
        for (Claim c : w.claims) {
            if (c.due == w.today && c.rock.owner == NONE) c.rock.owner = c.tug.number;
        }
        w.claims.removeIf(c -> c.due == w.today);
        for (Tug t : w.tugs) live(t);
        for (Rock r : w.rocks) drift(r);
        for (Tug t : w.tugs) {
            if (t.dock == null) drift(t);
        }
        for (Tug t : w.tugs) {
            Thing at = where(t);
            if (!t.dark && w.reports.size() < 60) w.reports.add(new Report(t, at.x, at.y, at.u, at.v, t.fuel, w.today, due(t)));
        }
        w.today++;
        for (Contract c : w.contracts) c.isVoid = c.met == NONE && c.day < w.today;
    }

    private void drift(Thing b) {
        long x = b.x, y = b.y;
        for (Sun s : w.suns) {
            long d = far(b, s.x, s.y);
            if (d == 0) continue;
            b.u = clamp(b.u + s.pull * 1000L * (s.x - x) / (d * d), 9999999);
            b.v = clamp(b.v + s.pull * 1000L * (s.y - y) / (d * d), 9999999);
        }
        b.x = clamp(x + b.u, 9999999);
        b.y = clamp(y + b.v, 9999999);
    }

    private void live(Tug t) {
        int free = 0;
        while (t.program != NONE && free < 30) {
            while (!t.frames.isEmpty() && t.frames.peek().next >= t.frames.peek().block.size()) t.frames.pop();
            if (t.frames.isEmpty()) {
                t.program = NONE;
                return;
            }
            Frame f = t.frames.peek();
            Node s = f.block.get(f.next);
            boolean on = true;
            boolean takes = true;
            switch (s.word) {
                case "aim":
                    t.aim = s.value;
                    takes = false;
                    break;
                case "if":
                    f.next++;
                    t.frames.push(new Frame(value(t, s.parts.get(0)) != 0 ? s.then : s.other));
                    on = false;
                    takes = false;
                    break;
                case "while":
                    if (value(t, s.parts.get(0)) != 0) {
                        t.frames.push(new Frame(s.then));
                        on = false;
                    }
                    takes = false;
                    break;
                case "until":
                    on = value(t, s.parts.get(0)) != 0;
                    takes = !on;
                    break;
                case "dock":
                    on = dock(t);
                    break;
                default:
                    act(t, s);
            }
            if (on) f.next++;
            if (takes) return;
            free++;
        }
    }

    private boolean dock(Tug t) {
        if (t.dock != null) return true;
        if (t.aim >= w.rocks.size()) return false;
        Rock r = w.rocks.get(t.aim);
        if (far(t, r.x, r.y) > 100 || Math.abs(t.u - r.u) > 50 || Math.abs(t.v - r.v) > 50 || Math.abs(r.spin) > 20 || !berth(r)) return false;
        t.dock = r;
        return true;
    }

    private void act(Tug t, Node s) {
        Rock at = t.dock;
        boolean docked = at != null;
        boolean station = docked && at.kind == 3;
        switch (s.word) {
            case "burn": burn(t, (int) clamp(value(t, s.parts.get(0)), 9), (int) clamp(value(t, s.parts.get(1)), 9)); break;
            case "free":
                if (!docked) break;
                t.x = at.x;
                t.y = at.y;
                t.u = at.u;
                t.v = at.v;
                t.dock = null;
                break;
            case "dig": {
                int what = docked && at.kind == 1 ? 0 : docked && at.kind == 2 ? 1 : -1;
                for (int i = 0; what >= 0 && i < (t.kind >= 2 ? 20 : 5); i++) {
                    if (at.stock[what] == 0 || t.hold[0] + t.hold[1] >= (t.kind == 1 ? 100 : 20)) break;
                    at.stock[what]--;
                    t.hold[what]++;
                }
                break;
            }
            case "make":
                for (int i = 0; t.kind == 3 && i < 5 && t.hold[0] > 0 && t.fuel < 999; i++) {
                    t.hold[0]--;
                    t.fuel++;
                    t.made++;
                }
                break;
            case "give":
                if (station) give(t, at);
                break;
            case "still": {
                int sign = docked ? Integer.signum(at.spin) : 0;
                boolean did = false;
                for (int i = 0; t.fuel > 0 && i < 5 && sign != 0 && at.spin != 0 && Math.abs(t.wheel + sign) <= 50; i++) {
                    at.spin -= sign;
                    t.wheel += sign;
                    did = true;
                }
                if (did) {
                    t.fuel--;
                    t.burnt++;
                }
                break;
            }
            case "shed": {
                int sign = Integer.signum(t.wheel);
                while (station && t.wheel != 0 && Math.abs(at.spin + sign) <= 99) {
                    at.spin += sign;
                    t.wheel -= sign;
                }
                break;
            }
            case "claim":
                if (docked && !station && w.claims.size() < 20) w.claims.add(new Claim(t, at, due(t)));
                break;
            default:
        }
    }

    private void burn(Tug t, int p, int q) {
        int cost = Math.abs(p) + Math.abs(q);
        if (t.fuel < cost) return;
        t.fuel -= cost;
        t.burnt += cost;
        if (t.dock == null) {
            t.u = clamp(t.u + 10 * p, 9999999);
            t.v = clamp(t.v + 10 * q, 9999999);
            return;
        }
        Rock r = t.dock;
        r.restU += 1000 * p;
        r.restV += 1000 * q;
        int du = r.restU / r.tons, dv = r.restV / r.tons;
        r.u = clamp(r.u + du, 9999999);
        r.v = clamp(r.v + dv, 9999999);
        r.restU -= du * r.tons;
        r.restV -= dv * r.tons;
    }

    private void give(Tug t, Rock at) {
        for (int what = 0; what < 2; what++) {
            for (Contract c : w.contracts) {
                while (c.rock == at && c.what == what && c.met == NONE && !c.isVoid && t.hold[what] > 0) {
                    t.hold[what]--;
                    if (++c.got == c.tons) c.met = w.today;
                }
            }
            while (t.hold[what] > 0 && at.stock[what] < 9999) {
                t.hold[what]--;
                at.stock[what]++;
            }
        }
    }

    private int value(Tug t, Node e) {
        if (e.word.equals("number")) return e.value;
        if (e.word.equals("name")) return name(t, (char) e.value);
        int left = value(t, e.parts.get(0));
        if (e.parts.size() == 1) return e.word.equals("!") ? left == 0 ? 1 : 0 : -left;
        int right = value(t, e.parts.get(1));
        switch (e.word) {
            case "|": return (left != 0 | right != 0) ? 1 : 0;
            case "&": return (left != 0 & right != 0) ? 1 : 0;
            case "<": return left < right ? 1 : 0;
            case "=": return left == right ? 1 : 0;
            case ">": return left > right ? 1 : 0;
            case "+": return left + right;
            case "-": return left - right;
            case "*": return left * right;
            default: return right == 0 ? 0 : left / right;
        }
    }

    private int name(Tug t, char name) {
        Thing own = where(t);
        Thing goal = t.aim < w.rocks.size() ? w.rocks.get(t.aim) : own;
        switch (name) {
            case 'x': return (int) (goal.x - own.x);
            case 'y': return (int) (goal.y - own.y);
            case 'u': return (int) (goal.u - own.u);
            case 'v': return (int) (goal.v - own.v);
            case 'f': return t.fuel;
            case 'w': return t.hold[0];
            case 'm': return t.hold[1];
            case 't': return w.today;
            case 'k': return t.dock == null ? 0 : 1;
            default: return t.wheel;
        }
    }

    // ---- what is known, foretold

    private int patch(Tug t, int what) {
        range(what, 0, 4);
        need(t.known != null, NONE);
        Report k = t.known;
        long n = w.today - k.day - 1;
        long spread = 0;
        for (long i = 1; i <= n; i++) spread += w.rules[1] * i;
        long[] ends = {k.x + n * k.u - spread, k.x + n * k.u + spread, k.y + n * k.v - spread, k.y + n * k.v + spread};
        for (int i = 0; i < 4; i++) ends[i] = clamp(ends[i], 9999999);
        if (what < 4) return (int) ends[what];
        Thing at = where(t);
        return at.x >= ends[0] && at.x <= ends[1] && at.y >= ends[2] && at.y <= ends[3] ? 1 : 0;
    }

    private Thing body(int number) {
        return number >= 10 ? where(of(w.tugs, number - 10)) : of(w.rocks, number);
    }

    private int miss(int one, int other, int n, int what) {
        body(one);
        body(other);
        need(one != other, BAD);
        range(n, 0, 60);
        range(what, 0, 1);
        byte[] before = written();
        World real = w;
        w = read(before);
        long least = Long.MAX_VALUE;
        int first = 0;
        for (int i = 0; i <= n; i++) {
            Thing a = body(one), b = body(other);
            long far = far(a, b.x, b.y);
            if (far < least) {
                least = far;
                first = i;
            }
            for (Rock r : w.rocks) drift(r);
            for (Tug t : w.tugs) {
                if (t.dock == null) drift(t);
            }
        }
        w = real;
        return what == 0 ? (int) least : first;
    }

    // ---- contracts, tours

    private int contract(int[] a) {
        range(a[0], 0, 1);
        range(a[1], 1, 999);
        Rock r = of(w.rocks, a[2]);
        range(a[3], w.today, 3000);
        range(a[4], 0, 9999);
        need(r.kind == 3, NO);
        need(w.contracts.size() < 8, FULL);
        Contract c = new Contract();
        c.what = a[0];
        c.tons = a[1];
        c.rock = r;
        c.day = a[3];
        c.pay = a[4];
        w.contracts.add(c);
        return w.contracts.size() - 1;
    }

    private int window(int[] a) {
        of(w.rocks, a[0]);
        of(w.rocks, a[1]);
        need(a[0] != a[1], BAD);
        range(a[2], 0, 999);
        range(a[3], 0, 999);
        need(a[2] <= a[3], BAD);
        range(a[4], 0, 999);
        range(a[5], 1, 200);
        need(w.windows.size() < 16, FULL);
        w.windows.add(new Window(w.windows.size(), a[0], a[1], a[2], a[3], a[4], a[5]));
        return w.windows.size() - 1;
    }

    private int tour(int rock, int t, int c, int end, int tries) {
        of(w.rocks, rock);
        range(t, 0, 999);
        range(c, 0, 999);
        range(end, t, 2000);
        range(tries, 1, 20000);
        List<List<Leg>> all = new ArrayList<>();
        all.add(List.of());
        // level by level: each tour of n WINDOWS and each that can be next
        for (int i = 0; i < all.size(); i++) {
            List<Leg> tour = all.get(i);
            if (tour.size() == 6) continue;
            for (Window next : w.windows) {
                Leg leg = leg(tour, next, rock, t, c, end);
                if (leg == null) continue;
                need(all.size() <= tries, SPENT);
                List<Leg> longer = new ArrayList<>(tour);
                longer.add(leg);
                all.add(longer);
            }
        }
        Comparator<List<Leg>> order = Comparator.comparingInt(l -> -worth(l, rock));
        order = order.thenComparingInt(l -> l.isEmpty() ? t : l.get(l.size() - 1).ends).thenComparingInt(List::size).thenComparing((l, m) -> {
            for (int i = 0; i < l.size(); i++) {
                if (l.get(i).window != m.get(i).window) return l.get(i).window - m.get(i).window;
            }
            return 0;
        });
        w.tour = new ArrayList<>(all.stream().min(order).get());
        return worth(w.tour, rock);
    }

    private Leg leg(List<Leg> tour, Window next, int rock, int t, int c, int end) {
        Leg last = tour.isEmpty() ? null : tour.get(tour.size() - 1);
        int at = last == null ? rock : w.windows.get(last.window).to;
        int day = last == null ? t : last.ends;
        int fuel = last == null ? c : last.fuel;
        if (next.from != at || tour.stream().anyMatch(l -> l.window == next.number)) return null;
        while (day < next.open) {
            day++;
            if (w.rocks.get(at).kind == 1) fuel = Math.min(999, fuel + w.rules[2]);
        }
        if (day > next.close || fuel < next.fuel || day + next.days > end) return null;
        return new Leg(next.number, day, day + next.days, fuel - next.fuel);
    }

    private int worth(List<Leg> tour, int rock) {
        Set<Integer> seen = new HashSet<>();
        for (Leg l : tour) seen.add(w.windows.get(l.window).to);
        seen.remove(rock);
        return seen.stream().mapToInt(r -> w.rocks.get(r).worth).sum();
    }

    /** ROWS of the latest TOUR; none, if there was none. */
    List<Integer> rows() {
        List<Integer> rows = new ArrayList<>();
        if (w.tour == null) return rows;
        for (Leg l : w.tour) rows.addAll(List.of(l.window, l.left, l.ends, l.fuel));
        return rows;
    }

    private int check() {
        List<Integer> told = waiting;
        waiting = new ArrayList<>();
        need(w.tour != null, NO);
        List<Integer> rows = rows();
        if (told.equals(rows)) return 0;
        int i = 0;
        while (i < told.size() && i < rows.size() && told.get(i).equals(rows.get(i))) i++;
        return 1 + i;
    }

    // ---- images, sheets

    private byte[] written() {
        try {
            ByteArrayOutputStream bytes = new ByteArrayOutputStream();
            ObjectOutputStream out = new ObjectOutputStream(bytes);
            out.writeObject(w);
            out.flush();
            return bytes.toByteArray();
        } catch (IOException e) {
            throw new IllegalStateException(e);
        }
    }

    private World read() {
        return read(image);
    }

    private static World read(byte[] bytes) {
        try {
            return (World) new ObjectInputStream(new ByteArrayInputStream(bytes)).readObject();
        } catch (IOException | ClassNotFoundException e) {
            throw new IllegalStateException(e);
        }
    }

    private int copy(int from, int place, int to, int at, int many) {
        range(from, 0, 1);
        range(to, 0, 1);
        need(sheets[from] != null && sheets[to] != null, NOTHING);
        try {
            System.arraycopy(sheets[from], place, sheets[to], at, many);
        } catch (IndexOutOfBoundsException e) {
            throw new Refusal(INDEX);
        }
        return many;
    }

    /** A text: first checked by what may come next, then, if it has no fault, read as a tree. */
    static final class Text {
        private static final Set<String> PLAIN = Set.of("dock", "free", "dig", "make", "give", "still", "shed", "claim", "wait");
        private static final String[] LEVELS = {"|", "&", "<=>", "+-", "*/"};
        private final List<String> words = new ArrayList<>();
        private final List<Integer> places = new ArrayList<>();
        private int fault = -1;
        private int next;

        Text(String text) {
            int i = 0;
            int glued = -1;
            while (i < text.length()) {
                char c = text.charAt(i);
                if (c == ' ') {
                    i++;
                    continue;
                }
                int j = i + 1;
                String kind = c >= 'a' && c <= 'z' ? "[a-z]" : c >= '0' && c <= '9' ? "[0-9]" : "";
                while (!kind.isEmpty() && j < text.length() && text.substring(j, j + 1).matches(kind)) j++;
                String word = text.substring(i, j);
                boolean wrong = !kind.isEmpty() && glued == i || word.matches("[0-9]{6,}");
                words.add(wrong ? "?" : word);
                places.add(i);
                if (!kind.isEmpty()) glued = j;
                i = j;
            }
            words.add("");
            places.add(text.length());
            int at = firstWrong();
            fault = at < 0 ? -1 : places.get(at);
        }

        int fault() {
            return fault;
        }

        /** What still must come lies on a stack, the next on top; the first word that does not fit, or -1. */
        private int firstWrong() {
            Deque<String> due = new ArrayDeque<>();
            push(due, "S", "MORE", "");
            int braces = 0, brackets = 0, signs = 0;
            for (int i = 0; i < words.size(); ) {
                String word = words.get(i);
                String top = due.pop();
                boolean number = word.matches("[0-9]+");
                switch (top) {
                    case "SIGNEND": signs--; continue;
                    case "MORE":
                        if (!word.equals("}") && !word.isEmpty()) push(due, "S", "MORE");
                        continue;
                    case "ELSE":
                        if (word.equals("else")) push(due, "else", "{", "S", "MORE", "}");
                        continue;
                    case "E": push(due, "PART", "REST0"); continue;
                    case "REST0":
                        if (word.length() == 1 && "|&+-*/".contains(word)) {
                            push(due, "PART", "REST0");
                            i++;
                        } else if (word.length() == 1 && "<=>".contains(word)) {
                            push(due, "PART", "REST1");
                            i++;
                        }
                        continue;
                    case "REST1":
                        if (word.length() == 1 && "|&".contains(word)) {
                            push(due, "PART", "REST0");
                            i++;
                        } else if (word.length() == 1 && "+-*/".contains(word)) {
                            push(due, "PART", "REST1");
                            i++;
                        }
                        continue;
                    case "S":
                        if (PLAIN.contains(word)) i++;
                        else if (word.equals("aim")) push(due, "aim", "NUMBER");
                        else if (word.equals("burn")) push(due, "burn", "E", ",", "E");
                        else if (word.equals("until")) push(due, "until", "E");
                        else if (word.equals("if")) push(due, "if", "E", "{", "S", "MORE", "}", "ELSE");
                        else if (word.equals("while")) push(due, "while", "E", "{", "S", "MORE", "}");
                        else return i;
                        continue;
                    case "PART":
                        if (number || word.length() == 1 && "xyuvfwmtks".contains(word)) i++;
                        else if (word.equals("!") || word.equals("-")) {
                            if (++signs > 8) return i;
                            i++;
                            push(due, "PART", "SIGNEND");
                        } else if (word.equals("(")) push(due, "(", "E", ")");
                        else return i;
                        continue;
                    case "NUMBER":
                        if (!number) return i;
                        i++;
                        continue;
                    default:
                        if (!top.equals(word)) return i;
                        if (word.equals("{") && ++braces > 4) return i;
                        if (word.equals("}")) braces--;
                        if (word.equals("(") && ++brackets > 8) return i;
                        if (word.equals(")")) brackets--;
                        i++;
                }
            }
            return -1;
        }

        private static void push(Deque<String> due, String... what) {
            for (int i = what.length - 1; i >= 0; i--) due.push(what[i]);
        }

        List<Node> tree() {
            next = 0;
            return block();
        }

        private List<Node> block() {
            List<Node> all = new ArrayList<>();
            while (!words.get(next).equals("}") && !words.get(next).isEmpty()) all.add(act());
            return all;
        }

        private List<Node> braced() {
            next++;
            List<Node> all = block();
            next++;
            return all;
        }

        private Node act() {
            String word = words.get(next++);
            List<Node> parts = new ArrayList<>();
            List<Node> then = List.of();
            List<Node> other = List.of();
            int value = 0;
            switch (word) {
                case "aim":
                    value = Integer.parseInt(words.get(next++));
                    break;
                case "burn":
                    parts.add(joined(0));
                    next++;
                    parts.add(joined(0));
                    break;
                case "until":
                    parts.add(joined(0));
                    break;
                case "if":
                case "while":
                    parts.add(joined(0));
                    then = braced();
                    if (word.equals("if") && words.get(next).equals("else")) {
                        next++;
                        other = braced();
                    }
                    break;
                default:
            }
            return new Node(word, value, parts, then, other);
        }

        private Node joined(int level) {
            if (level == LEVELS.length) return part();
            Node left = joined(level + 1);
            while (words.get(next).length() == 1 && LEVELS[level].contains(words.get(next))) {
                String sign = words.get(next++);
                left = node(sign, 0, left, joined(level + 1));
            }
            return left;
        }

        private Node part() {
            String word = words.get(next++);
            if (word.equals("(")) {
                Node inner = joined(0);
                next++;
                return inner;
            }
            if (word.equals("!") || word.equals("-")) return node(word, 0, part());
            if (word.matches("[0-9]+")) return node("number", Integer.parseInt(word));
            return node("name", word.charAt(0));
        }

        private static Node node(String word, int value, Node... parts) {
            return new Node(word, value, new ArrayList<>(Arrays.asList(parts)), List.of(), List.of());
        }
    }
}
