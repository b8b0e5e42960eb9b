import java.util.List;
import java.util.function.Supplier;
import java.util.function.ToLongFunction;

/** Looks at calls that answer an ERROR: what they answer, that they leave all as it was, and what is counted of them. */
final class Refusals {
    private final Due due;

    Refusals(Due due) {
        this.due = due;
    }

    /** Ints beyond a range: next to it, the smallest, the largest, and some whose lowest bits are in it. */
    static int[] outside(int low, int high) {
        return new int[] {low - 1, high + 1, Integer.MIN_VALUE, Integer.MIN_VALUE + 1, Integer.MAX_VALUE,
            Integer.MAX_VALUE - 1, low - 256, high + 256, low + 65536, high - 65536};
    }

    /** On the rich scene. */
    void refused(String call, long error, ToLongFunction<GreenPath> act) {
        refused(call, error, Scenes::rich, act);
    }

    void refused(String call, long error, Supplier<GreenPath> scene, ToLongFunction<GreenPath> act) {
        for (int look = 0; look < Look.LOOKS; look++) {
            GreenPath asked = scene.get();
            due.is(call, act.applyAsLong(asked), error);
            leftAsItWas(call, Look.at(asked, look), Look.at(scene.get(), look));
        }
        GreenPath asked = scene.get();
        GreenPath other = scene.get();
        act.applyAsLong(asked);
        for (int k = 1; k <= 5; k++) {
            int more = error == -1000000000L - k ? 1 : 0;
            due.is(call + " counted at " + k, asked.told(k), other.told(k) + more);
        }
    }

    private void leftAsItWas(String call, List<String> rows, List<String> before) {
        due.is(call + " leaves as many rows", rows.size(), before.size());
        for (int i = 0; i < rows.size() && i < before.size(); i++) {
            due.is(call + ", then", rows.get(i), before.get(i));
        }
    }
}
