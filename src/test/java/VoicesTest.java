/** Promises 24 to 26: seed, voice, trace. */
public final class VoicesTest {
    private static final Due DUE = new Due("VoicesTest");

    public static void main(String[] args) {
        seeds();
        voices();
        wrongInputs();
        DUE.end();
    }

    private static void seeds() {
        GreenPath x = new GreenPath();
        DUE.is("seed", x.seed(Integer.MIN_VALUE), 1);
        DUE.is("seed anew", x.seed(Due.NONE), Integer.MIN_VALUE);
        DUE.is("z", x.count(7), Due.NONE);
        DUE.is("any number", x.seed(0), Due.NONE);
        DUE.is("no ERROR", x.told(2), 0);
    }

    private static void voice(int pair, int km, int act, int n, int want, int... bodies) {
        GreenPath x = new GreenPath();
        x.law(pair, km);
        String call = "voice of " + km + " act " + act;
        DUE.is(call, x.voice(pair, act, n), want);
        DUE.is(call + " BODIES", x.count(6), bodies.length);
        for (int i = 0; i < bodies.length; i++) {
            DUE.is(call + " trace " + i, x.trace(i), bodies[i]);
        }
        DUE.is(call + " no more", x.trace(bodies.length), Due.NONE);
    }

    private static void voices() {
        voice(3, 4, 0, 7, 10, 10);
        voice(3, 4, 1, 7, 20, 11, 10);
        voice(3, 4, 2, 7, 3, 12);
        voice(3, 4, 3, 7, 20 ^ 3, 13, 11, 10, 12);
        voice(5, 12, 0, 1, 6, 10);
        voice(5, 12, 1, 1, 13, 20, 11, 10, 12);
        voice(5, 12, 3, 1, 13 ^ -1, 13, 20, 11, 10, 12, 12);
        voice(2, 25, 0, 1, 9, 30, 10);
        voice(2, 25, 1, 1, 18, 11, 30, 10);
        voice(2, 25, 2, 1, -4, 12);
        voice(1, 38, 2, 3, 5, 40, 12);
        voice(1, 38, 3, 3, 8 ^ 5, 13, 11, 10, 40, 12);
        voice(2, 41, 1, 3, 12, 50, 20, 11, 10, 12);
        voice(2, 41, 3, 3, 14, 13, 50, 20, 11, 10, 12, 12);
        voice(1, 52, 3, 5, 30, 60, 13, 11, 30, 10, 12, 30, 10);
        voice(4, 63, 2, 1, 6, 70, 40, 12);
        voice(4, 63, 3, 1, -2, 71, 11, 10, 13, 11, 10, 70, 40, 12);
        voice(5, 0, 0, Integer.MAX_VALUE, Integer.MIN_VALUE + 4, 10);
        voice(0, 20, 0, 1 << 30, (1 << 30) * 3, 30, 10);
        voice(0, 30, 2, Integer.MIN_VALUE, Integer.MIN_VALUE, 40, 12);
    }

    private static void wrongInputs() {
        GreenPath x = new GreenPath();
        DUE.is("no BODIES", x.trace(0), Due.NONE);
        x.voice(0, 3, 0);
        int many = x.count(6);
        DUE.is("voice of 6", x.voice(6, 0, 0), Due.BEYOND);
        DUE.is("voice of -1", x.voice(-1, 0, 0), Due.BEYOND);
        DUE.is("voice 4", x.voice(0, 4, 0), Due.BEYOND);
        DUE.is("voice -1", x.voice(0, -1, 0), Due.BEYOND);
        DUE.is("trace -1", x.trace(-1), Due.NONE);
        DUE.is("the TRACE stays", x.count(6), many);
        DUE.is("the TRACE's first", x.trace(0), 13);
        x.law(0, 0);
        DUE.is("a voice like an ERROR", x.voice(0, 0, Due.BEYOND), Due.BEYOND);
        DUE.is("is none", x.told(1), 4);
        DUE.is("the latest alone", x.count(6), 1);
    }
}
