import java.lang.reflect.InvocationTargetException;
import java.lang.reflect.Method;
import java.util.ArrayList;
import java.util.Arrays;
import java.util.HashMap;
import java.util.List;
import java.util.Map;

/** Skies to try calls on, calls by name, and all that can be told of a sky. */
final class Skies {
    /** Makes a sky anew, each time the same one. */
    interface Maker {
        RockTugs make();
    }

    static final int EDGE = 9999999;
    private static final Map<String, Method> FACE = new HashMap<>();

    private Skies() {
    }

    static int call(RockTugs x, String name, int... a) {
        if (FACE.isEmpty()) {
            for (Method m : RockTugs.class.getMethods()) FACE.put(m.getName() + m.getParameterCount(), m);
        }
        Method method = FACE.get(name + a.length);
        if (method == null) throw new IllegalArgumentException("no such call: " + name + Arrays.toString(a));
        try {
            return (Integer) method.invoke(x, Arrays.stream(a).boxed().toArray());
        } catch (InvocationTargetException | IllegalAccessException e) {
            throw new IllegalStateException(name + Arrays.toString(a), e);
        }
    }

    static RockTugs empty() {
        return new RockTugs();
    }

    /** Something of everything is there and under way, an image is kept; TODAY is 14. */
    static RockTugs busy() {
        RockTugs x = new RockTugs();
        x.sun(3000, 3000, 50);
        x.rock(1, 2000, 0, 50, 15);
        x.rock(3, 0, 100, 900, -3);
        x.rock(2, 40, 0, 7, 0);
        x.stock(0, 0, 70);
        x.stock(2, 1, 500);
        for (int i = 0; i < 3; i++) x.stock(i, 2, 10 + i);
        x.weigh(0, 40, 60);
        x.speed(2, 1, 2);
        x.tug(3, 0, 0, 300);
        x.tug(1, 0, 50, 300);
        x.moor(0, 0);
        x.moor(1, 2);
        x.rule(0, 700);
        x.rule(1, 50);
        x.rule(2, 20);
        x.contract(1, 3, 1, 50, 77);
        x.contract(0, 40, 1, 5, 7);
        x.contract(0, 40, 1, 60, 8);
        x.window(0, 1, 3, 20, 9, 4);
        x.window(1, 2, 3, 30, 9, 4);
        x.tour(0, 0, 20, 100, 9);
        Due.program(x, 0, "claim dig make still while f>250{burn 3,t-3}free wait");
        Due.program(x, 1, "dig free while 1{burn 1,1}");
        Due.program(x, 2, "while 1{give burn 0,1}");
        x.send(0, 0);
        x.send(1, 1);
        x.run(6);
        x.moor(1, 1);
        x.send(1, 2);
        x.keep();
        x.run(8);
        x.rule(0, 70);
        x.send(0, 1);
        x.sheet(0, 5);
        for (int i = 0; i < 5; i++) x.mark(0, i, 100 * i + 7);
        for (int i = 0; i < 3; i++) x.tell(i);
        Due.write(x, "dig free");
        return x;
    }

    /** As many of everything as there may be, an image of it too. */
    static RockTugs full() {
        RockTugs x = new RockTugs();
        for (int i = 0; i < 3; i++) x.sun(9000 + 100 * i, 9000, 9);
        for (int i = 0; i < 8; i++) x.rock(i < 4 ? i : 3, 5000 + 30 * i, 0, 900, 9);
        for (int i = 0; i < 4; i++) x.tug(i, 5000, 0, 900);
        for (int i = 0; i < 4; i++) x.moor(i, i);
        for (int i = 0; i < 8; i++) x.contract(i % 2, 9, 3 + i % 5, 99, 9);
        for (int i = 0; i < 16; i++) x.window(i % 8, (i + 1) % 8, 0, 99, 0, 1);
        for (int i = 0; i < 8; i++) x.stock(i, 2, 9);
        x.tour(0, 0, 0, 200, 20000);
        for (int i = 0; i < 4; i++) Due.program(x, i, "while 1{claim}");
        for (int i = 0; i < 4; i++) x.send(i, i);
        x.run(10);
        x.rule(0, 1);
        x.run(20);
        for (int i = 0; i < 30; i++) x.send(i % 4, i % 4);
        x.keep();
        for (int i = 0; i < 2; i++) {
            x.sheet(i, 40);
            for (int p = 0; p < 40; p += 13) x.mark(i, p, p + 5);
        }
        for (int i = 0; i < 30; i++) x.tell(i);
        Due.write(x, "wait ".repeat(24));
        return x;
    }

    /** TODAY is 3000. */
    static RockTugs late() {
        RockTugs x = new RockTugs();
        x.rock(3, 100, 0, 5, 0);
        x.tug(0, 0, 0, 500);
        Due.program(x, 0, "while t<2998{wait}while 1{burn 1,0}");
        x.send(0, 0);
        for (int i = 0; i < 100; i++) x.run(30);
        return x;
    }

    /** How many parts there are of all that can be told. */
    static final int PARTS = 6;

    /** One part of all that can be told of a sky, which may be changed by it. */
    static List<Integer> part(RockTugs x, int part) {
        List<Integer> all = new ArrayList<>();
        switch (part) {
            case 0:
                now(x, all);
                break;
            case 1:
                all.add(x.run(30));
                now(x, all);
                break;
            case 2:
                all.add(x.back());
                now(x, all);
                break;
            case 3:
                for (int i = 0; i < 8; i++) {
                    all.add(x.tour(i, 0, 500, 2000, 20000));
                    for (int leg = 0; leg < 6; leg++) all.add(x.leg(leg));
                }
                break;
            case 4:
                sheets(x, all);
                break;
            default:
                for (int i = 0; i < 3; i++) all.add(x.rule(i, 1));
                for (int i = 0; i < 4; i++) all.add(x.dark(i, 0));
                for (int i = 0; i < 4; i++) all.add(x.send(0, i));
                all.add(x.check());
                all.add(x.program(3));
        }
        return all;
    }

    private static void now(RockTugs x, List<Integer> all) {
        for (int what = 0; what < 12; what++) all.add(x.count(what));
        for (int i = 0; i < 8; i++) {
            for (int what = 0; what < 13; what++) all.add(x.told(i, what));
            for (int what = 0; what < 3; what++) all.add(x.about(i, what));
            for (int end = 0; end < 2; end++) all.add(x.learnt(i, end));
            all.add(x.leg(i));
        }
        for (int i = 0; i < 4; i++) {
            for (int what = 0; what < 14; what++) all.add(x.has(i, what));
            for (int what = 0; what < 6; what++) all.add(x.known(i, what));
            for (int what = 0; what < 5; what++) all.add(x.patch(i, what));
        }
        all.add(x.paid());
    }

    private static void sheets(RockTugs x, List<Integer> all) {
        for (int s = 0; s < 2; s++) {
            for (int place = 0; place < 41; place++) all.add(x.mark(s, place, 0));
        }
    }
}
