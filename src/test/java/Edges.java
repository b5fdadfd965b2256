import java.util.Arrays;
import java.util.List;

/** Holds calls at their edges: what is taken, what is refused, and that a refusal changes nothing. */
final class Edges {
    private final Due due;

    Edges(Due due) {
        this.due = due;
    }

    private static boolean isRefusal(int answer) {
        return answer <= RockTugs.BAD && answer >= RockTugs.SIZE && answer != RockTugs.NONE;
    }

    void taken(Skies.Maker sky, String name, int... a) {
        int got = Skies.call(sky.make(), name, a);
        due.is(name + Arrays.toString(a) + " is refused", isRefusal(got) ? 1 : 0, 0);
    }

    /** Refused, and the sky is as if the call had not been. */
    void refused(int want, Skies.Maker sky, String name, int... a) {
        String call = name + Arrays.toString(a);
        due.is(call, Skies.call(sky.make(), name, a), want);
        same(call + " changes nothing", () -> {
            RockTugs x = sky.make();
            Skies.call(x, name, a);
            return x;
        }, sky);
    }

    /** Nothing that can be told tells the one sky from the other. */
    void same(String what, Skies.Maker one, Skies.Maker other) {
        for (int part = 0; part < Skies.PARTS; part++) {
            List<Integer> got = Skies.part(one.make(), part);
            List<Integer> want = Skies.part(other.make(), part);
            int first = 0;
            while (first < want.size() && got.get(first).equals(want.get(first))) first++;
            due.is(what + ": answers of part " + part + " that are alike", first, want.size());
        }
    }

    /** One argument of a call goes through its ends: the last that are taken, the first that are refused. */
    void range(Skies.Maker sky, int at, int least, int most, String name, int... good) {
        int[] refused = {least - 1, most + 1, Integer.MIN_VALUE, Integer.MAX_VALUE};
        for (int v : refused) refused(RockTugs.BAD, sky, name, with(good, at, v));
        taken(sky, name, with(good, at, least));
        taken(sky, name, with(good, at, most));
    }

    private static int[] with(int[] good, int at, int v) {
        int[] a = good.clone();
        a[at] = v;
        return a;
    }
}
