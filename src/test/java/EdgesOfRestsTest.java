/** The edges of what stays the same by rests, as the Terms and promises 17 and 18 name them, sentence by sentence. */
public final class EdgesOfRestsTest {
    private static final Due DUE = new Due("EdgesOfRestsTest");
    private static final Refusals NOT = new Refusals(DUE);
    private static final int MIN = Integer.MIN_VALUE;
    private static final int MAX = Integer.MAX_VALUE;

    public static void main(String[] args) {
        weights();
        howMany();
        barsTerm();
        stays();
        staysBeyond();
        staysNone();
        bars();
        barsBeyond();
        barsState();
        DUE.end();
    }

    /** Only these PAIRS are free, and of each of them one being less comes, of SORT b. */
    private static GreenPath eating(int... pairs) {
        GreenPath x = new GreenPath();
        for (int pair = 0; pair < 6; pair++) {
            x.fence(pair, 1);
        }
        for (int pair : pairs) {
            x.law(pair, 20);
            x.fence(pair, 0);
        }
        return x;
    }

    private static void weights() {
        DUE.says("Terms", "STAYS by k (2 to 5): weights (w0, w1, w2), each 0 to k - 1, told as w0 k k, w1 k and w2 together, "
            + "for which the sum of weights times COUNTS leaves the same rest by k, whatever of all PAIRS that aren't FENCED "
            + "meet (as if there were enough):");
        for (int k = 2; k <= 5; k++) {
            // SORTS whose own PAIR eats can have no weight but 0: one SORT's weight is free in each
            GreenPath[] free = {eating(3, 5), eating(0, 5), eating(0, 3)};
            int[] times = {k * k, k, 1};
            for (int sort = 0; sort < 3; sort++) {
                DUE.is("one free by " + k, free[sort].stays(k, -1), k);
                for (int i = 0; i < k - 1; i++) {
                    DUE.is("weight " + (i + 1) + " of " + sort, free[sort].stays(k, i), (i + 1) * times[sort]);
                }
                DUE.is("no weight " + k, free[sort].stays(k, k - 1), Due.NONE);
            }
        }
        int[][] counts = {{0, 0, 0}, {1, 0, 0}, {4, 4, 4}, {0, 0, 12}};
        for (int[] of : counts) {
            GreenPath x = Due.island(of[0], of[1], of[2]);
            DUE.is("THIRD by 3", x.stays(3, -1), 9);
            x.law(0, 31);
            // of 0 and 0 there comes a 1 more, though there be 12: w1 must be 0, and then 2 w0 = w2, 2 w2 = w0
            DUE.is("SPLIT by 3", x.stays(3, -1), 3);
            DUE.is("SPLIT by 3, the first", x.stays(3, 0), 11);
            DUE.is("SPLIT by 3, the second", x.stays(3, 1), 19);
            x.fence(0, 1);
            DUE.is("SPLIT FENCED", x.stays(3, -1), 9);
        }
        GreenPath x = new GreenPath();
        x.law(3, 60);
        DUE.is("TOLD by a + b + m", x.stays(5, -1), 5);
        Scenes.text(x, 0, "0");
        DUE.is("TOLD by 0", x.stays(5, -1), 5);
        x.law(3, 65);
        DUE.is("TOLD and one more", x.stays(5, -1), 1);
    }

    private static void howMany() {
        DUE.says("Terms", "how many there are (0, 0, 0 too), and the i-th greater than 0, the least first.");
        GreenPath none = eating(0, 3, 5);
        GreenPath all = eating();
        for (int k = 2; k <= 5; k++) {
            DUE.is("0, 0, 0 alone", none.stays(k, -1), 1);
            DUE.is("none greater", none.stays(k, 0), Due.NONE);
            DUE.is("all", all.stays(k, -1), k * k * k);
            DUE.is("the first of all", all.stays(k, 0), 1);
            DUE.is("the second of all", all.stays(k, 1), 2);
            DUE.is("the last but one", all.stays(k, k * k * k - 3), k * k * k - 2);
            DUE.is("the last", all.stays(k, k * k * k - 2), k * k * k - 1);
            DUE.is("beyond the last", all.stays(k, k * k * k - 1), Due.NONE);
        }
        int[] by3 = {5, 7, 11, 13, 15, 19, 21, 26};
        GreenPath x = new GreenPath();
        for (int i = 0; i < 8; i++) {
            DUE.is("by 3 " + i, x.stays(3, i), by3[i]);
        }
        DUE.is("by 3 8", x.stays(3, 8), Due.NONE);
    }

    private static GreenPath fenced(int first, int second, int third) {
        GreenPath x = eating();
        x.be(0, first);
        x.be(1, second);
        x.be(2, third);
        return x;
    }

    private static void barred(GreenPath x, int k, String want) {
        DUE.is("bars by " + k, "" + x.bars(0, k) + x.bars(1, k) + x.bars(2, k), want);
    }

    private static void barsTerm() {
        DUE.says("Terms", "BARS an END of a SORT by k: whether, by some of these weights, the sum for as many beings of that "
            + "SORT as there are now in all leaves another rest by k than that for the COUNTS of now.");
        // all FENCED: all weights stay, and an END is barred if a COUNT other than its own leaves a rest, or its own another
        barred(fenced(1, 2, 4), 2, "011");
        barred(fenced(1, 2, 4), 3, "111");
        barred(fenced(2, 4, 6), 2, "000");
        barred(fenced(1, 4, 4), 4, "011");
        barred(fenced(5, 0, 5), 5, "000");
        barred(fenced(0, 0, 5), 5, "000");
        barred(fenced(0, 0, 5), 4, "110");
        barred(fenced(0, 0, 12), 2, "000");
        barred(fenced(0, 0, 12), 3, "000");
        barred(fenced(0, 0, 12), 4, "000");
        barred(fenced(0, 0, 12), 5, "110");
        barred(fenced(1, 0, 0), 2, "011");
        barred(Due.island(1, 2, 4), 3, "101");
        barred(Due.island(2, 4, 1), 3, "011");
        barred(Due.island(4, 1, 2), 3, "110");
        barred(Due.island(3, 3, 3), 3, "000");
        barred(Due.island(1, 2, 4), 2, "000");
        // 0 and 1 become two of 2, whose weight must be 0: so those of 0 and 1 are k together, and these alone bar
        GreenPath x = eating(5);
        x.fence(1, 0);
        x.be(0, 1);
        x.be(2, 1);
        DUE.is("the only weights by 2", x.stays(2, 0), 6);
        barred(x, 2, "111");
        DUE.is("the first weights by 3", x.stays(3, 0), 15);
        barred(x, 3, "101");
        DUE.is("the first weights by 5", x.stays(5, 0), 45);
        barred(x, 5, "111");
        x = eating(0, 3, 5);
        x.be(0, 1);
        x.be(1, 2);
        for (int k = 2; k <= 5; k++) {
            barred(x, k, "000");
        }
    }

    private static void stays() {
        DUE.says("Promise 17", "STAYS by k: what -1 how many, i (0 on) the i-th greater than 0.");
        GreenPath x = new GreenPath();
        DUE.is("how many by 2", x.stays(2, -1), 2);
        DUE.is("the first by 2", x.stays(2, 0), 7);
        DUE.is("how many by 5", x.stays(5, -1), 5);
        DUE.is("the first by 5", x.stays(5, 0), 31);
        DUE.is("the last by 5", x.stays(5, 3), 124);
    }

    private static void staysBeyond() {
        DUE.says("Promise 17", "BEYOND: k, what below -1.");
        for (int bad : Refusals.outside(2, 5)) {
            NOT.refused("stays by " + bad, Due.BEYOND, y -> y.stays(bad, -1));
            NOT.refused("the first by " + bad, Due.BEYOND, y -> y.stays(bad, 0));
            NOT.refused("far by " + bad, Due.BEYOND, y -> y.stays(bad, MAX));
        }
        NOT.refused("stays by 0", Due.BEYOND, y -> y.stays(0, -1));
        int[] below = {-2, -3, -126, MIN, MIN + 1};
        for (int what : below) {
            for (int k = 1; k <= 6; k++) {
                int by = k;
                NOT.refused("stays what " + what, Due.BEYOND, y -> y.stays(by, what));
            }
        }
    }

    private static void staysNone() {
        DUE.says("Promise 17", "NONE: there is no i-th.");
        int[] far = {0, 1, 7, 124, 125, 65536, MAX - 1, MAX};
        for (int what : far) {
            for (int k = 2; k <= 5; k++) {
                int by = k;
                NOT.refused("stays what " + what, Due.NONE, y -> y.stays(by, what));
            }
        }
        GreenPath x = eating();
        DUE.is("there is one", x.stays(5, 123), 124);
        DUE.is("there is none", x.stays(5, 124), Due.NONE);
        DUE.is("there is none that far", x.stays(5, MAX), Due.NONE);
    }

    private static void bars() {
        DUE.says("Promise 18", "BARS an END of a SORT by k: 1, 0.");
        GreenPath x = Due.island(1, 2, 4);
        DUE.is("barred", x.bars(0, 3), 1);
        DUE.is("not barred", x.bars(1, 3), 0);
        DUE.is("barred", x.bars(2, 3), 1);
        DUE.is("one alone", fenced(0, 1, 0).bars(0, 5), 1);
        DUE.is("one alone, of its own", fenced(0, 1, 0).bars(1, 5), 0);
    }

    private static void barsBeyond() {
        DUE.says("Promise 18", "BEYOND.");
        for (int bad : Refusals.outside(0, 2)) {
            NOT.refused("bars " + bad, Due.BEYOND, y -> y.bars(bad, 2));
            NOT.refused("bars " + bad + " of nobody", Due.BEYOND, GreenPath::new, y -> y.bars(bad, 5));
        }
        for (int bad : Refusals.outside(2, 5)) {
            NOT.refused("bars by " + bad, Due.BEYOND, y -> y.bars(0, bad));
            NOT.refused("bars by " + bad + " of nobody", Due.BEYOND, GreenPath::new, y -> y.bars(2, bad));
        }
        NOT.refused("bars by 0", Due.BEYOND, y -> y.bars(0, 0));
    }

    private static void barsState() {
        DUE.says("Promise 18", "STATE: there are no beings.");
        for (int sort = 0; sort < 3; sort++) {
            for (int k = 2; k <= 5; k++) {
                int of = sort;
                int by = k;
                NOT.refused("bars of nobody", Due.STATE, Scenes::nobody, y -> y.bars(of, by));
                GreenPath x = Scenes.nobody();
                x.be(sort, 1);
                DUE.is("bars of one", x.bars(sort, k), 0);
            }
        }
    }
}
