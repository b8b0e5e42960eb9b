import java.util.Random;

/** Random runs of calls (always the same ones), of which the program and the model must answer each alike. */
public final class RandomRunsTest {
    private static final int RUNS = 600;
    /** The document frees what an object answers behind so many calls; a step makes at most MOST_OF_A_STEP of them. */
    private static final int CALLS = 512;
    private static final int MOST_OF_A_STEP = 60;
    private static final String SIGNS = "abmkt0123456789|&<=>+-*/%!()";

    private final Due due = new Due("RandomRunsTest");
    private final Random random = new Random(20261118L);
    private GreenPath x;
    private Model y;
    private int calls;

    public static void main(String[] args) {
        new RandomRunsTest().run();
    }

    private void run() {
        for (int run = 0; run < RUNS; run++) {
            x = new GreenPath();
            y = new Model();
            boolean dense = random.nextBoolean();
            calls = 0;
            while (calls + MOST_OF_A_STEP <= CALLS) {
                step(run, dense);
            }
            for (int k = 1; k <= 5; k++) {
                same(run + " told", x.told(k), y.told(k));
            }
        }
        due.end();
    }

    private void same(String call, long got, long want) {
        calls++;
        due.is(call, got, want);
    }

    /** A number from low to high, at times one next to or far beyond them. */
    private int near(int low, int high) {
        int way = random.nextInt(40);
        if (way == 0) {
            return low - 1;
        }
        if (way == 1) {
            return high + 1;
        }
        if (way == 2) {
            return random.nextInt();
        }
        return low + random.nextInt(high - low + 1);
    }

    private int any() {
        return random.nextInt(3) == 0 ? random.nextInt() : random.nextInt(21) - 10;
    }

    private int stateNear() {
        if (random.nextInt(3) == 0) {
            return near(0, 2200);
        }
        int all = random.nextInt(13);
        if (random.nextInt(3) != 0) {
            all = x.count(1);
            same("count 1", all, y.count(1));
        }
        int a = random.nextInt(all + 1);
        int b = random.nextInt(all - a + 1);
        return a * 169 + b * 13 + all - a - b;
    }

    private int stateNow() {
        int state = x.count(0);
        same("count 0", state, y.count(0));
        return state;
    }

    private void step(int run, boolean dense) {
        String call = "run " + run + " call " + calls + " ";
        switch (random.nextInt(7)) {
            case 0: beings(call, dense); break;
            case 1: texts(call); break;
            case 2: meetings(call); break;
            case 3: searches(call); break;
            case 4: rests(call); break;
            case 5: sheets(call); break;
            default: others(call); break;
        }
    }

    private void beings(String call, boolean dense) {
        int pair = near(0, 5);
        switch (random.nextInt(7)) {
            case 0: {
                int sort = near(0, 2);
                int v = near(0, dense ? 12 : 4);
                same(call + "be " + sort + " " + v, x.be(sort, v), y.be(sort, v));
                break;
            }
            case 1: {
                int sort = near(0, 2);
                same(call + "of", x.of(sort), y.of(sort));
                break;
            }
            case 2: {
                int km = near(0, 69);
                same(call + "law " + pair + " " + km, x.law(pair, km), y.law(pair, km));
                break;
            }
            case 3: {
                int v = random.nextInt(4) == 0 ? near(0, 1) : 0;
                same(call + "fence " + pair + " " + v, x.fence(pair, v), y.fence(pair, v));
                break;
            }
            case 4: {
                int kind = near(0, 6);
                same(call + "as " + pair + " " + kind, x.as(pair, kind), y.as(pair, kind));
                break;
            }
            default: {
                int what = near(0, 7);
                same(call + "ofPair " + pair + " " + what, x.ofPair(pair, what), y.ofPair(pair, what));
                break;
            }
        }
    }

    private String expression(int depth, String names) {
        switch (random.nextInt(depth <= 0 ? 2 : 6)) {
            case 0: return String.valueOf(names.charAt(random.nextInt(names.length())));
            case 1: return String.valueOf(random.nextInt(random.nextInt(30) == 0 ? 100000 : 20));
            case 2: return "!" + expression(depth - 1, names);
            case 3: return "(" + expression(depth - 1, names) + ")";
            default:
                char sign = "|&<=>+-*/%".charAt(random.nextInt(10));
                return expression(depth - 1, names) + sign + expression(depth - 1, names);
        }
    }

    private void texts(String call) {
        int use = near(0, 1);
        switch (random.nextInt(3)) {
            case 0: {
                int[] v = {any(), any(), any(), any()};
                same(call + "gives " + use, x.gives(use, v[0], v[1], v[2], v[3]), y.gives(use, v[0], v[1], v[2], v[3]));
                break;
            }
            case 1: {
                long word = random.nextLong();
                int n = near(1, 8);
                same(call + "feed", x.feed(word, n), y.feed(word, n));
                break;
            }
            default:
                if (random.nextInt(3) > 0) {
                    same(call + "text", x.text(0), y.text(0));
                }
                feedText(call, use);
                same(call + "text " + use, x.text(use), y.text(use));
                break;
        }
    }

    private void feedText(String call, int use) {
        StringBuilder text = new StringBuilder(expression(random.nextInt(8), use == 1 ? "abkt" : "abm"));
        if (random.nextInt(2) == 0) {
            int place = random.nextInt(text.length());
            text.setCharAt(place, SIGNS.charAt(random.nextInt(SIGNS.length())));
        }
        for (int i = 0; i < text.length() && i < 50; i++) {
            same(call + "feed " + text, x.feed(text.charAt(i), 1), y.feed(text.charAt(i), 1));
        }
    }

    private void meetings(String call) {
        int pair = near(0, 5);
        int n = near(1, 60);
        if (random.nextInt(3) == 0) {
            same(call + "chance " + n, x.chance(n), y.chance(n));
        } else {
            same(call + "meet " + pair, x.meet(pair), y.meet(pair));
        }
    }

    private void searches(String call) {
        int sort = near(0, 2);
        int what = near(0, 1);
        int state = stateNear();
        int n = near(0, 6);
        switch (random.nextInt(11)) {
            case 0: same(call + "reach " + state, x.reach(state), y.reach(state)); break;
            case 1: {
                int i = near(0, 4);
                same(call + "way " + state + " " + i, x.way(state, i), y.way(state, i));
                break;
            }
            case 2: same(call + "can " + sort + " " + what, x.can(sort, what), y.can(sort, what)); break;
            case 3: same(call + "reached", x.reached(), y.reached()); break;
            case 4: same(call + "ways " + n + " " + state, x.ways(n, state), y.ways(n, state)); break;
            case 5: same(call + "allWays " + n, x.allWays(n), y.allWays(n)); break;
            case 6: same(call + "fences " + sort + " " + what, x.fences(sort, what), y.fences(sort, what)); break;
            case 7: same(call + "was " + n + " " + what, x.was(n, what), y.was(n, what)); break;
            default: same(call + "force " + sort, x.force(sort), y.force(sort)); break;
        }
    }

    private void rests(String call) {
        int k = near(2, 5);
        int what = near(-1, 8);
        int sort = near(0, 2);
        if (random.nextBoolean()) {
            same(call + "stays " + k + " " + what, x.stays(k, what), y.stays(k, what));
        } else {
            same(call + "bars " + sort + " " + k, x.bars(sort, k), y.bars(sort, k));
        }
    }

    private void sheets(String call) {
        int sheet = near(0, 3);
        int i = near(0, 4);
        switch (random.nextInt(6)) {
            case 0: {
                int bits = near(0, 4) * 8;
                int n = near(0, random.nextInt(4) == 0 ? 40 : 6);
                same(call + "sheet " + sheet + " " + bits + " " + n, x.sheet(sheet, bits, n), y.sheet(sheet, bits, n));
                break;
            }
            case 1: {
                int other = near(0, 3);
                int j = near(0, 4);
                int n = near(0, 4);
                same(call + "move", x.move(sheet, i, other, j, n), y.move(sheet, i, other, j, n));
                break;
            }
            case 2: same(call + "judge " + sheet, x.judge(sheet), y.judge(sheet)); break;
            default: {
                int v = near(0, 5) + (random.nextInt(3) == 0 ? 256 * random.nextInt(1000) : 0);
                same(call + "put", x.put(sheet, i, v), y.put(sheet, i, v));
                break;
            }
        }
    }

    private void others(String call) {
        switch (random.nextInt(10)) {
            case 0: {
                int v = any();
                same(call + "seed", x.seed(v), y.seed(v));
                break;
            }
            case 1: {
                int pair = near(0, 5);
                int act = near(0, 3);
                int v = any();
                same(call + "voice " + pair + " " + act + " " + v, x.voice(pair, act, v), y.voice(pair, act, v));
                break;
            }
            case 2: {
                int i = near(0, 14);
                same(call + "trace " + i, x.trace(i), y.trace(i));
                break;
            }
            case 3: same(call + "image", x.image(), y.image()); break;
            case 4: same(call + "restore", x.restore(), y.restore()); break;
            case 5: {
                int v = random.nextBoolean() ? stateNow() : stateNear();
                same(call + "tell " + v, x.tell(v), y.tell(v));
                break;
            }
            case 6: same(call + "check", x.check(), y.check()); break;
            case 7: {
                int k = near(1, 5);
                same(call + "told " + k, x.told(k), y.told(k));
                break;
            }
            default: {
                int what = near(0, 7);
                same(call + "count " + what, x.count(what), y.count(what));
                break;
            }
        }
    }
}
