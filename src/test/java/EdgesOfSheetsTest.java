/** The edges of SHEETS, as part 4 of the Terms and promises 27 to 30 name them, sentence by sentence. */
public final class EdgesOfSheetsTest {
    private static final Due DUE = new Due("EdgesOfSheetsTest");
    private static final Refusals NOT = new Refusals(DUE);
    private static final int MIN = Integer.MIN_VALUE;
    private static final int MAX = Integer.MAX_VALUE;
    private static final int[] WIDE = {8, 16, 32};
    private static final int[] FAR = {MIN, MIN + 1, MAX, MAX - 1, 65536, -65536};

    public static void main(String[] args) {
        sheetsTerm();
        sheet();
        sheetMissing();
        sheetBeyond();
        sheetState();
        sheetBeyondOfN();
        put();
        putBeyond();
        putNone();
        putNoNumber();
        move();
        moveAsTheyWere();
        moveBeyond();
        moveNone();
        moveKind();
        moveNotThere();
        judge();
        judgeChangesNothing();
        judgeBeyond();
        judgeNone();
        DUE.end();
    }

    private static void sheetsTerm() {
        DUE.says("Terms", "SHEETS 0 .. 3 are rows of 8, 16, 32 bits, at most 40 numbers, or missing (as at first).");
        GreenPath x = Due.island(2, 0, 0);
        DUE.is("SHEET -1", x.judge(-1), Due.BEYOND);
        DUE.is("SHEET 4", x.judge(4), Due.BEYOND);
        for (int sheet = 0; sheet < 4; sheet++) {
            DUE.is("missing at first", x.judge(sheet), Due.NONE);
            for (int bits : WIDE) {
                DUE.is("40 numbers", x.sheet(sheet, bits, 40), 1);
                DUE.is("all of them", x.judge(sheet), 40);
                DUE.is("the last", x.put(sheet, 39, 6), 1);
                DUE.is("all but the last", x.judge(sheet), 39);
                DUE.is("no 41st", x.put(sheet, 40, 0), Due.BEYOND);
            }
        }
    }

    private static void sheet() {
        DUE.says("Promise 27", "A SHEET has n numbers, all 0, of so many bits (8, 16, 32; 0: it is missing, n doesn't matter): 1.");
        int[] many = {0, 1, 39, 40};
        for (int bits : WIDE) {
            for (int n : many) {
                GreenPath x = Due.island(2, 0, 0);
                x.sheet(2, bits, 40);
                for (int i = 0; i < 40; i++) {
                    x.put(2, i, 6);
                }
                DUE.is("sheet " + bits + " " + n, x.sheet(2, bits, n), 1);
                DUE.is("all 0", x.judge(2), n);
                DUE.is("the number behind them", x.put(2, n, 0), Due.BEYOND);
                DUE.is("the last one", n == 0 ? 1 : x.put(2, n - 1, 0), 1);
                x.sheet(2, bits, 40);
                DUE.is("all 0 again", x.judge(2), 40);
            }
        }
    }

    private static void sheetMissing() {
        DUE.says("Promise 27", "A SHEET has n numbers, all 0, of so many bits (8, 16, 32; 0: it is missing, n doesn't matter): 1.");
        int[] any = {0, 1, 40, 41, -1, MIN, MAX};
        for (int n : any) {
            GreenPath x = Due.island(2, 0, 0);
            DUE.is("missing that was missing", x.sheet(1, 0, n), 1);
            x.sheet(1, 16, 3);
            DUE.is("missing " + n, x.sheet(1, 0, n), 1);
            DUE.is("missing to judge", x.judge(1), Due.NONE);
            DUE.is("missing to put", x.put(1, 0, 0), Due.NONE);
            DUE.is("missing to move", x.move(1, 0, 1, 0, 0), Due.NONE);
            DUE.is("no ERROR but these", x.told(1) + x.told(2) + x.told(3), 3);
            x.sheet(1, 8, 2);
            DUE.is("there again", x.judge(1), 2);
        }
    }

    private static void sheetBeyond() {
        DUE.says("Promise 27", "BEYOND.");
        for (int bad : Refusals.outside(0, 3)) {
            NOT.refused("sheet " + bad, Due.BEYOND, y -> y.sheet(bad, 8, 1));
            NOT.refused("sheet " + bad + " missing", Due.BEYOND, y -> y.sheet(bad, 0, 1));
            NOT.refused("sheet " + bad + " ahead of STATE", Due.BEYOND, y -> y.sheet(bad, 8, -1));
        }
        int[] bits = {1, 7, 9, 15, 17, 24, 31, 33, 64, 128, -1, -8, -32, 256, 264, MIN, MIN + 8, MAX};
        for (int bad : bits) {
            NOT.refused("bits " + bad, Due.BEYOND, y -> y.sheet(0, bad, 1));
            NOT.refused("bits " + bad + " ahead of STATE", Due.BEYOND, y -> y.sheet(3, bad, -1));
        }
    }

    private static void sheetState() {
        DUE.says("Promise 27", "STATE: n is below 0 (ahead of BEYOND of n).");
        int[] below = {-1, -2, -40, -65536, MIN, MIN + 1};
        for (int n : below) {
            for (int bits : WIDE) {
                NOT.refused("sheet of " + n, Due.STATE, y -> y.sheet(0, bits, n));
                NOT.refused("missing sheet of " + n, Due.STATE, y -> y.sheet(3, bits, n));
            }
        }
    }

    private static void sheetBeyondOfN() {
        DUE.says("Promise 27", "(ahead of BEYOND of n)");
        int[] above = {41, 42, 64, 65536, MAX, MAX - 1};
        for (int n : above) {
            for (int bits : WIDE) {
                NOT.refused("sheet of " + n, Due.BEYOND, y -> y.sheet(0, bits, n));
                NOT.refused("missing sheet of " + n, Due.BEYOND, y -> y.sheet(3, bits, n));
            }
        }
    }

    /** Whether a SHEET's only number is PAIR 3, as the lowest bits of v tell. */
    private static void lowest(int bits, int v, boolean three) {
        GreenPath x = Due.island(0, 2, 0);
        x.sheet(0, bits, 1);
        DUE.is("put " + v, x.put(0, 0, v), 1);
        DUE.is("of " + bits + " bits " + v, x.judge(0), three ? 1 : 0);
    }

    private static void put() {
        DUE.says("Promise 28", "Number i of a SHEET becomes v (its lowest bits): 1.");
        for (int bits : WIDE) {
            lowest(bits, 3, true);
            lowest(bits, 2, false);
            lowest(bits, 6, false);
            lowest(bits, 3 | 128, false);
            lowest(bits, 3 | 256, bits == 8);
            lowest(bits, 3 | 32768, bits == 8);
            lowest(bits, 3 | 65536, bits < 32);
            lowest(bits, 3 | MIN, bits < 32);
            lowest(bits, 3 - 256, bits == 8);
            lowest(bits, 3 - 65536, bits < 32);
            lowest(bits, MIN, false);
            lowest(bits, MAX, false);
            lowest(bits, -1, false);
            lowest(bits, -3, false);
        }
        for (int bits : WIDE) {
            GreenPath x = Due.island(0, 0, 2);
            x.sheet(1, bits, 40);
            for (int i = 39; i >= 0; i--) {
                DUE.is("put at " + i, x.put(1, i, 5), 1);
                DUE.is("still the first isn't", x.judge(1), i == 0 ? 40 : 0);
            }
            x.put(1, 20, 4);
            DUE.is("at 20 alone", x.judge(1), 20);
            x.put(1, 20, 5);
            x.put(1, 39, 4);
            DUE.is("at 39 alone", x.judge(1), 39);
        }
    }

    private static void putBeyond() {
        DUE.says("Promise 28", "BEYOND: no such SHEET.");
        for (int bad : Refusals.outside(0, 3)) {
            NOT.refused("put " + bad, Due.BEYOND, y -> y.put(bad, 0, 2));
            NOT.refused("put " + bad + " nowhere", Due.BEYOND, y -> y.put(bad, -1, 2));
        }
    }

    private static void putNone() {
        DUE.says("Promise 28", "NONE: it is missing.");
        int[] any = {-1, 0, 1, 39, 40, MIN, MAX};
        for (int i : any) {
            NOT.refused("put missing at " + i, Due.NONE, y -> y.put(3, i, 2));
        }
    }

    private static void putNoNumber() {
        DUE.says("Promise 28", "BEYOND: no such number.");
        int[] many = {3, 2, 2};
        for (int sheet = 0; sheet < 3; sheet++) {
            int of = sheet;
            for (int bad : Refusals.outside(0, many[sheet] - 1)) {
                NOT.refused("put " + sheet + " at " + bad, Due.BEYOND, y -> y.put(of, bad, 2));
            }
            DUE.is("put at the last", Scenes.rich().put(sheet, many[sheet] - 1, MIN), 1);
        }
        NOT.refused("put at 0 of none", Due.BEYOND, EdgesOfSheetsTest::empty, y -> y.put(3, 0, 2));
    }

    /** SHEET 3 is there, of 8 bits, and has no numbers. */
    private static GreenPath empty() {
        GreenPath x = Scenes.rich();
        x.sheet(3, 8, 0);
        return x;
    }

    /** SHEET 0 of so many numbers, PAIRS as given, on an island on which all PAIRS may meet without end. */
    private static GreenPath row(int bits, int... pairs) {
        GreenPath x = Due.island(2, 2, 2);
        for (int pair = 0; pair < 6; pair++) {
            x.law(pair, 0);
        }
        x.sheet(0, bits, pairs.length);
        for (int i = 0; i < pairs.length; i++) {
            x.put(0, i, pairs[i]);
        }
        return x;
    }

    /** What a SHEET's numbers are: each is the PAIR that alone must be free. */
    private static void stands(GreenPath x, int sheet, int bits, int... pairs) {
        x.sheet(3, bits, 1);
        for (int i = 0; i < pairs.length; i++) {
            x.move(sheet, i, 3, 0, 1);
            for (int pair = 0; pair < 6; pair++) {
                x.fence(pair, pair == pairs[i] ? 0 : 1);
            }
            DUE.is("number " + i, x.judge(3), 1);
        }
    }

    private static void move() {
        DUE.says("Promise 29", "n numbers of a SHEET, from number i on, come to another one (or the same), from its number j on, "
            + "as they all were: n.");
        for (int bits : WIDE) {
            GreenPath x = row(bits, 0, 1, 2, 3, 4, 5);
            x.sheet(1, bits, 4);
            DUE.is("none", x.move(0, 0, 1, 0, 0), 0);
            stands(x, 1, bits, 0, 0, 0, 0);
            DUE.is("one", x.move(0, 5, 1, 3, 1), 1);
            stands(x, 1, bits, 0, 0, 0, 5);
            DUE.is("four", x.move(0, 2, 1, 0, 4), 4);
            stands(x, 1, bits, 2, 3, 4, 5);
            stands(x, 0, bits, 0, 1, 2, 3, 4, 5);
            DUE.is("back", x.move(1, 1, 0, 0, 3), 3);
            stands(x, 0, bits, 3, 4, 5, 3, 4, 5);
        }
        GreenPath x = Due.island(2, 0, 0);
        x.sheet(0, 32, 40);
        x.sheet(1, 32, 40);
        x.put(0, 39, 6);
        DUE.is("all 40", x.move(0, 0, 1, 0, 40), 40);
        DUE.is("the last of 40", x.judge(1), 39);
        DUE.is("none at the end", x.move(0, 40, 1, 40, 0), 0);
        DUE.is("all of its own", x.move(0, 0, 0, 0, 40), 40);
        DUE.is("the last of its own", x.judge(0), 39);
    }

    private static void moveAsTheyWere() {
        DUE.says("Promise 29", "as they all were: n.");
        for (int bits : WIDE) {
            GreenPath x = row(bits, 0, 1, 2, 3, 4, 5);
            DUE.is("ahead by one", x.move(0, 0, 0, 1, 5), 5);
            stands(x, 0, bits, 0, 0, 1, 2, 3, 4);
            x = row(bits, 0, 1, 2, 3, 4, 5);
            DUE.is("back by one", x.move(0, 1, 0, 0, 5), 5);
            stands(x, 0, bits, 1, 2, 3, 4, 5, 5);
            x = row(bits, 0, 1, 2, 3, 4, 5);
            DUE.is("ahead by two", x.move(0, 1, 0, 3, 3), 3);
            stands(x, 0, bits, 0, 1, 2, 1, 2, 3);
            x = row(bits, 5, 4);
            DUE.is("to where they are", x.move(0, 0, 0, 0, 2), 2);
            stands(x, 0, bits, 5, 4);
        }
    }

    private static void moveBeyond() {
        DUE.says("Promise 29", "BEYOND: no such SHEET.");
        for (int bad : Refusals.outside(0, 3)) {
            NOT.refused("move " + bad, Due.BEYOND, y -> y.move(bad, 0, 0, 0, 1));
            NOT.refused("move to " + bad, Due.BEYOND, y -> y.move(0, 0, bad, 0, 1));
            NOT.refused("move a missing one to " + bad, Due.BEYOND, y -> y.move(3, 0, bad, 0, 1));
            NOT.refused("move " + bad + " to a missing one", Due.BEYOND, y -> y.move(bad, 0, 3, 0, 1));
            NOT.refused("move " + bad + " to itself", Due.BEYOND, y -> y.move(bad, 0, bad, 0, -1));
        }
    }

    private static void moveNone() {
        DUE.says("Promise 29", "NONE: one is missing.");
        for (int sheet = 0; sheet < 3; sheet++) {
            int of = sheet;
            NOT.refused("move missing", Due.NONE, y -> y.move(3, 0, of, 0, 1));
            NOT.refused("move to missing", Due.NONE, y -> y.move(of, 0, 3, 0, 1));
            NOT.refused("move none to missing", Due.NONE, y -> y.move(of, 0, 3, 0, 0));
            NOT.refused("move ahead of BEYOND", Due.NONE, y -> y.move(of, -1, 3, MAX, MIN));
        }
        NOT.refused("move missing to itself", Due.NONE, y -> y.move(3, 0, 3, 0, 0));
    }

    private static void moveKind() {
        DUE.says("Promise 29", "KIND: they are of unlike bits.");
        NOT.refused("8 to 16", Due.KIND, y -> y.move(0, 0, 2, 0, 1));
        NOT.refused("16 to 8", Due.KIND, y -> y.move(2, 0, 0, 0, 1));
        NOT.refused("none of 8 to 16", Due.KIND, y -> y.move(0, 0, 2, 0, 0));
        NOT.refused("8 to 16 ahead of BEYOND", Due.KIND, y -> y.move(0, -1, 2, 9, -1));
        NOT.refused("16 to 8 ahead of BEYOND", Due.KIND, y -> y.move(2, MIN, 1, MAX, MAX));
        for (int one : WIDE) {
            for (int other : WIDE) {
                GreenPath x = new GreenPath();
                x.sheet(0, one, 1);
                x.sheet(1, other, 1);
                DUE.is(one + " to " + other, x.move(0, 0, 1, 0, 1), one == other ? 1 : Due.KIND);
            }
        }
    }

    private static void moveNotThere() {
        DUE.says("Promise 29", "BEYOND: n, i, or j is below 0, or they don't stand there.");
        // SHEET 0 has three numbers, SHEET 1 two
        int[][] wrong = {{-1, 0, 1}, {0, -1, 1}, {0, 0, -1}, {-1, -1, -1}, {1, 1, -1}, {-1, 0, 0}, {0, -1, 0}, {3, 0, 1}, {2, 0, 2},
            {0, 2, 1}, {0, 1, 2}, {0, 0, 3}, {4, 0, 0}, {0, 3, 0}, {1, 0, 3}, {-1, 0, 2}, {0, -1, 2}, {3, 2, 1}};
        for (int[] of : wrong) {
            NOT.refused("move " + of[0] + " " + of[1] + " " + of[2], Due.BEYOND, y -> y.move(0, of[0], 1, of[1], of[2]));
        }
        for (int far : FAR) {
            NOT.refused("i " + far, Due.BEYOND, y -> y.move(0, far, 1, 0, 1));
            NOT.refused("j " + far, Due.BEYOND, y -> y.move(0, 0, 1, far, 1));
            NOT.refused("n " + far, Due.BEYOND, y -> y.move(0, 0, 1, 0, far));
            NOT.refused("i and n " + far, Due.BEYOND, y -> y.move(0, far, 1, 0, far));
            NOT.refused("j and n " + far, Due.BEYOND, y -> y.move(0, 0, 1, far, far));
            NOT.refused("n from 1 on " + far, Due.BEYOND, y -> y.move(0, 1, 1, 1, far));
            NOT.refused("i of none " + far, Due.BEYOND, y -> y.move(0, far, 1, 0, 0));
            NOT.refused("i and j " + far, Due.BEYOND, y -> y.move(0, far, 1, far, 2));
        }
        int[][] right = {{0, 0, 2}, {1, 0, 2}, {2, 1, 1}, {3, 2, 0}, {0, 0, 0}, {2, 0, 1}};
        for (int[] of : right) {
            DUE.is("they stand there", Scenes.rich().move(0, of[0], 1, of[1], of[2]), of[2]);
        }
        NOT.refused("one of none", Due.BEYOND, EdgesOfSheetsTest::empty, y -> y.move(3, 0, 0, 0, 1));
        NOT.refused("one to none", Due.BEYOND, EdgesOfSheetsTest::empty, y -> y.move(0, 0, 3, 0, 1));
        DUE.is("none to none", empty().move(3, 0, 3, 0, 0), 0);
    }

    private static void judge() {
        DUE.says("Promise 30", "Numbers of a SHEET are PAIRS that would meet one behind the other from now on: the place of the "
            + "first that MAY not (or is no PAIR); as many as there are: all may.");
        GreenPath x = Due.island(2, 2, 0);
        x.sheet(0, 32, 0);
        DUE.is("of none", x.judge(0), 0);
        x.sheet(0, 32, 5);
        int[] pairs = {1, 1, 5, 5, 5};
        for (int i = 0; i < 5; i++) {
            x.put(0, i, pairs[i]);
        }
        DUE.is("all may", x.judge(0), 5);
        x.put(0, 4, 1);
        DUE.is("the last MAY not", x.judge(0), 4);
        x.put(0, 2, 1);
        DUE.is("the third MAY not, nor the last", x.judge(0), 2);
        x.put(0, 0, 5);
        DUE.is("5 not yet", x.judge(0), 0);
        int[] none = {6, 7, 255, 256, 65536 + 1, -1, MIN, MIN + 1, MAX};
        for (int v : none) {
            x.put(0, 0, 1);
            x.put(0, 1, v);
            DUE.is("no PAIR " + v, x.judge(0), 1);
            x.put(0, 0, v);
            DUE.is("no PAIR at first " + v, x.judge(0), 0);
        }
        x = Due.island(1, 9, 0);
        x.law(1, 30);
        x.sheet(1, 8, 3);
        for (int i = 0; i < 3; i++) {
            x.put(1, i, 1);
        }
        DUE.is("to 13", x.judge(1), 2);
        x.fence(1, 1);
        DUE.is("FENCED", x.judge(1), 0);
        x = Scenes.met(9999);
        x.sheet(0, 8, 40);
        for (int i = 0; i < 40; i++) {
            x.put(0, i, 5);
        }
        DUE.is("MET is 9999, yet they MAY", x.judge(0), 40);
    }

    private static void judgeChangesNothing() {
        DUE.says("Promise 30", "Nothing changes.");
        for (int sheet = 0; sheet < 3; sheet++) {
            for (int look = 0; look < Look.LOOKS; look++) {
                GreenPath x = Scenes.rich();
                x.judge(sheet);
                DUE.is("behind judge", Look.at(x, look).toString(), Look.at(Scenes.rich(), look).toString());
            }
        }
        GreenPath x = Scenes.rich();
        x.judge(0);
        for (int k = 1; k <= 5; k++) {
            DUE.is("no ERROR", x.told(k), k);
        }
    }

    private static void judgeBeyond() {
        DUE.says("Promise 30", "BEYOND: no such SHEET.");
        for (int bad : Refusals.outside(0, 3)) {
            NOT.refused("judge " + bad, Due.BEYOND, y -> y.judge(bad));
        }
    }

    private static void judgeNone() {
        DUE.says("Promise 30", "NONE: it is missing.");
        NOT.refused("judge 3", Due.NONE, y -> y.judge(3));
        for (int sheet = 0; sheet < 4; sheet++) {
            int of = sheet;
            NOT.refused("judge " + sheet + " of a new one", Due.NONE, GreenPath::new, y -> y.judge(of));
        }
        DUE.is("there, and of none", empty().judge(3), 0);
    }
}
