/** The edges of draws, voices and the TRACE, as the Terms and promises 24 to 26 name them, sentence by sentence. */
public final class EdgesOfVoicesTest {
    private static final Due DUE = new Due("EdgesOfVoicesTest");
    private static final Refusals NOT = new Refusals(DUE);
    private static final int MIN = Integer.MIN_VALUE;
    private static final int MAX = Integer.MAX_VALUE;
    private static final int[] NUMBERS = {0, 1, -1, 7, 1 << 30, MIN, MIN + 1, MAX, MAX - 1, -1000000001, -1000000005};

    public static void main(String[] args) {
        voicesTerm();
        bodies();
        superBodies();
        traceTerm();
        seed();
        voice();
        voiceBeyond();
        trace();
        traceNone();
        DUE.end();
    }

    private static int voice(int pair, int km, int act, int x) {
        GreenPath island = new GreenPath();
        island.law(pair, km);
        return island.voice(pair, act, x);
    }

    private static void voicesTerm() {
        DUE.says("Terms", "VOICES of the LAW of a PAIR, with a number x (ints that go round); n is the PAIR, m as told: "
            + "0 meets, 1 turns, 2 stays, 3 tells.");
        for (int pair = 0; pair < 6; pair++) {
            for (int m = 0; m <= 9; m++) {
                for (int x : NUMBERS) {
                    DUE.is("meets", voice(pair, m, 0, x), x + pair);
                    DUE.is("turns", voice(pair, m, 1, x), (x + pair) * 2);
                    DUE.is("stays", voice(pair, m, 2, x), x - m);
                    DUE.is("tells", voice(pair, m, 3, x), (x + pair) * 2 ^ (x - m));
                }
            }
        }
        DUE.is("round", voice(5, 0, 0, MAX), MIN + 4);
        DUE.is("not yet round", voice(5, 0, 0, MAX - 5), MAX);
        DUE.is("round below", voice(0, 9, 2, MIN), MAX - 8);
        DUE.is("not yet round below", voice(0, 9, 2, MIN + 9), MIN);
        DUE.is("twice round", voice(0, 0, 1, 1 << 30), MIN);
        DUE.is("three times round", voice(0, 20, 0, 1 << 30), -(1 << 30));
        DUE.is("the least turned", voice(0, 30, 2, MIN), MIN);
    }

    private static void bodies() {
        DUE.says("Terms", "BODIES: LAW: 10 meets: x + n. 11 turns: meets(x) * 2. 12 stays: x - m. 13 tells: turns(x) ^ stays(x). "
            + "THIRD: 20 turns: super.turns(x) - stays(1). EAT: 30 meets: super.meets(x) * 3. SPLIT: 40 stays: -super.stays(x). "
            + "COPY: 50 turns: super.turns(x + 1). JOIN: 60 tells: super.tells(x) - meets(2). TOLD: 70 stays: super.stays(x) ^ n. "
            + "71 tells: turns(x) - super.tells(x).");
        for (int n = 0; n < 6; n++) {
            for (int m = 0; m <= 9; m += 3) {
                for (int x : NUMBERS) {
                    int turns = (x + n) * 2;
                    kind(n, 10 + m, x, x + n, turns - (1 - m), x - m, turns - (1 - m) ^ (x - m));
                    kind(n, 20 + m, x, (x + n) * 3, (x + n) * 3 * 2, x - m, (x + n) * 3 * 2 ^ (x - m));
                    kind(n, 30 + m, x, x + n, turns, -(x - m), turns ^ -(x - m));
                    int copy = (x + 1 + n) * 2 - (1 - m);
                    kind(n, 40 + m, x, x + n, copy, x - m, copy ^ (x - m));
                    int join = ((x + n) * 3 * 2 ^ (x - m)) - (2 + n) * 3;
                    kind(n, 50 + m, x, (x + n) * 3, (x + n) * 3 * 2, x - m, join);
                    int told = -(x - m) ^ n;
                    kind(n, 60 + m, x, x + n, turns, told, turns - (turns ^ told));
                }
            }
        }
    }

    private static void kind(int pair, int km, int x, int... want) {
        for (int act = 0; act < 4; act++) {
            DUE.is("voice " + act + " of " + km + " with " + x, voice(pair, km, act, x), want[act]);
        }
    }

    private static String traced(int km, int act) {
        GreenPath x = new GreenPath();
        x.law(1, km);
        x.voice(1, act, 3);
        StringBuilder row = new StringBuilder();
        int many = x.count(6);
        for (int i = 0; i < many; i++) {
            row.append(i == 0 ? "" : " ").append(x.trace(i));
        }
        DUE.is("no more", x.trace(many), Due.NONE);
        return row.toString();
    }

    private static void superBodies() {
        DUE.says("Terms", "meets(..) is the BODY of its KIND, or of the next KIND above that has one; "
            + "super.meets(..) that from the KIND above the BODY's on.");
        String[][] rows = {
            {"10", "11 10", "12", "13 11 10 12"},
            {"10", "20 11 10 12", "12", "13 20 11 10 12 12"},
            {"30 10", "11 30 10", "12", "13 11 30 10 12"},
            {"10", "11 10", "40 12", "13 11 10 40 12"},
            {"10", "50 20 11 10 12", "12", "13 50 20 11 10 12 12"},
            {"30 10", "11 30 10", "12", "60 13 11 30 10 12 30 10"},
            {"10", "11 10", "70 40 12", "71 11 10 13 11 10 70 40 12"}};
        for (int kind = 0; kind < 7; kind++) {
            for (int act = 0; act < 4; act++) {
                DUE.is("BODIES of " + kind + " " + act, traced(10 * kind + 4, act), rows[kind][act]);
            }
        }
    }

    private static void traceTerm() {
        DUE.says("Terms", "THE TRACE: the numbers of BODIES of the latest voice(), as they began "
            + "(what stands left is worked out first), the first 40.");
        DUE.is("left first", traced(14, 3), "13 20 11 10 12 12");
        GreenPath x = new GreenPath();
        DUE.is("none at first", x.count(6), 0);
        x.voice(0, 3, 0);
        DUE.is("six", x.count(6), 6);
        x.voice(0, 0, 0);
        DUE.is("the latest alone", x.count(6), 1);
        DUE.is("its BODY", x.trace(0), 10);
        DUE.is("none of the one ahead", x.trace(1), Due.NONE);
        int most = 0;
        for (int km = 0; km < 70; km++) {
            for (int act = 0; act < 4; act++) {
                x = new GreenPath();
                x.law(0, km);
                x.voice(0, act, km);
                most = Math.max(most, x.count(6));
            }
        }
        // the document's BODIES never come to 40: the longest voice has nine
        DUE.is("the longest", most, 9);
    }

    private static void seed() {
        DUE.says("Promise 24", "z becomes v: what it was (any number).");
        GreenPath x = new GreenPath();
        int was = 1;
        for (int v : NUMBERS) {
            DUE.is("seed " + v, x.seed(v), was);
            DUE.is("z", x.count(7), v);
            was = v;
        }
        for (int k = 1; k <= 5; k++) {
            x.seed(-1000000000 - k);
            DUE.is("a seed like an ERROR", x.seed(0), -1000000000 - k);
        }
        for (int k = 1; k <= 5; k++) {
            DUE.is("is none", x.told(k), 0);
        }
    }

    private static void voice() {
        DUE.says("Promise 25", "A VOICE of the LAW of a PAIR: any number.");
        GreenPath x = new GreenPath();
        x.law(0, 0);
        for (int k = 1; k <= 5; k++) {
            DUE.is("a voice like an ERROR", x.voice(0, 0, -1000000000 - k), -1000000000 - k);
            DUE.is("is traced", x.count(6), 1);
        }
        for (int k = 1; k <= 5; k++) {
            DUE.is("is none", x.told(k), 0);
        }
        x.fence(0, 1);
        DUE.is("of a FENCED PAIR too", x.voice(0, 0, 5), 5);
        DUE.is("of nobody", x.count(0), 0);
    }

    private static void voiceBeyond() {
        DUE.says("Promise 25", "BEYOND.");
        for (int bad : Refusals.outside(0, 5)) {
            NOT.refused("voice of " + bad, Due.BEYOND, y -> y.voice(bad, 0, 0));
            NOT.refused("voice of " + bad, Due.BEYOND, y -> y.voice(bad, 4, MIN));
        }
        for (int bad : Refusals.outside(0, 3)) {
            NOT.refused("voice 0 " + bad, Due.BEYOND, y -> y.voice(0, bad, 0));
            NOT.refused("voice 5 " + bad, Due.BEYOND, y -> y.voice(5, bad, MAX));
        }
    }

    private static void trace() {
        DUE.says("Promise 26", "THE TRACE's i-th.");
        GreenPath x = new GreenPath();
        x.law(4, 63);
        x.voice(4, 3, 1);
        int[] row = {71, 11, 10, 13, 11, 10, 70, 40, 12};
        for (int i = 0; i < row.length; i++) {
            DUE.is("trace " + i, x.trace(i), row[i]);
        }
        DUE.is("trace 9", x.trace(9), Due.NONE);
        x.voice(6, 0, 0);
        DUE.is("stays behind a refused voice", x.trace(8), 12);
    }

    private static void traceNone() {
        DUE.says("Promise 26", "NONE: there is none such.");
        int[] none = {-1, -2, 9, 10, 39, 40, 41, 65536, MIN, MIN + 1, MAX, MAX - 1};
        for (int i : none) {
            NOT.refused("trace " + i, Due.NONE, y -> y.trace(i));
        }
        for (int i = -1; i <= 1; i++) {
            int at = i;
            NOT.refused("trace of no voice " + i, Due.NONE, GreenPath::new, y -> y.trace(at));
        }
    }
}
