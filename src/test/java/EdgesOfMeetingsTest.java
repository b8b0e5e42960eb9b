/** The edges of meetings that the document names in its Terms and in promises 11 and 12, sentence by sentence. */
public final class EdgesOfMeetingsTest {
    private static final Due DUE = new Due("EdgesOfMeetingsTest");
    private static final Refusals NOT = new Refusals(DUE);
    private static final int[] SEEDS = {1, 0, -1, 77, 2026, Integer.MIN_VALUE, Integer.MAX_VALUE, 1 << 24, -1 << 24, 255};

    public static void main(String[] args) {
        met();
        spentHeld();
        spentAtFirst();
        draws();
        tooFew();
        theOneAndTheOther();
        nothingComes();
        meet();
        meetBeyond();
        meetMayNot();
        meetAtMost();
        chance();
        chanceBeyond();
        chanceAtMost();
        DUE.end();
    }

    private static void met() {
        DUE.says("Terms", "MET: how many there were (0 to 9999; 0 at first).");
        GreenPath x = Due.island(0, 0, 2);
        DUE.is("MET at first", x.count(2), 0);
        x.meet(5);
        DUE.is("MET 1", x.count(2), 1);
        x.meet(0);
        DUE.is("none by a refused one", x.count(2), 1);
        x = Scenes.met(9998);
        DUE.is("MET 9998", x.count(2), 9998);
        DUE.is("one more", x.meet(5), 2);
        DUE.is("MET 9999", x.count(2), 9999);
        DUE.is("no more", x.meet(5), Due.STATE);
        DUE.is("MET 9999 still", x.count(2), 9999);
    }

    /** Two beings that have met 1010 times at a PRICE: SPENT is 9 short of what it is held within. */
    private static GreenPath spender(String price) {
        GreenPath x = Due.island(0, 0, 2);
        Scenes.text(x, 1, price);
        for (int i = 0; i < 16; i++) {
            x.chance(60);
        }
        x.chance(50);
        return x;
    }

    private static void spent(GreenPath x, String price, int want) {
        Scenes.text(x, 1, price);
        x.meet(5);
        DUE.is("SPENT by " + price, x.count(3), want);
    }

    private static void spentHeld() {
        DUE.says("Terms", "SPENT: held within -99999 to 99999;");
        GreenPath x = spender("99");
        DUE.is("SPENT", x.count(3), 99990);
        spent(x, "8", 99998);
        spent(x, "1", 99999);
        spent(x, "1", 99999);
        spent(x, "99", 99999);
        spent(x, "0-1", 99998);
        spent(x, "2", 99999);
        spent(x, "0-99", 99900);
        x = spender("0-99");
        DUE.is("SPENT below", x.count(3), -99990);
        spent(x, "0-8", -99998);
        spent(x, "0-1", -99999);
        spent(x, "0-1", -99999);
        spent(x, "0-99", -99999);
        spent(x, "1", -99998);
        spent(x, "0-2", -99999);
        spent(x, "99", -99900);
        x.image();
        x.chance(60);
        DUE.is("SPENT by chance", x.count(3), -99900 + 60 * 99);
    }

    private static void spentAtFirst() {
        DUE.says("Terms", "0 at first.");
        GreenPath x = Due.island(0, 0, 2);
        DUE.is("SPENT at first", x.count(3), 0);
        Scenes.text(x, 1, "0");
        x.meet(5);
        DUE.is("SPENT by 0", x.count(3), 0);
        Scenes.text(x, 1, "0-1");
        x.meet(5);
        DUE.is("SPENT below 0", x.count(3), -1);
    }

    private static void draws() {
        DUE.says("Terms", "CHANCE by draws: z is told (1 at first); each makes it z * 1103515245 + 12345 (an int), and gives z >>> 8.");
        GreenPath x = Due.island(0, 0, 2);
        DUE.is("z at first", x.count(7), 1);
        x.chance(1);
        DUE.is("z behind two draws", x.count(7), (int) ((1103515245L + 12345L) * 1103515245L + 12345L));
        for (int seed : SEEDS) {
            x.seed(seed);
            int z = seed;
            for (int n = 1; n <= 60; n += 59) {
                x.chance(n);
                for (int i = 0; i < 2 * n; i++) {
                    z = z * 1103515245 + 12345;
                }
                DUE.is("z behind " + n + " by " + seed, x.count(7), z);
            }
        }
    }

    private static void tooFew() {
        DUE.says("Terms", "A CHANCE MEETING (with less than two beings nothing comes of it, and nothing is drawn):");
        for (int n = 1; n <= 60; n += 59) {
            GreenPath x = new GreenPath();
            DUE.is("of nobody", x.chance(n), 0);
            DUE.is("nothing drawn", x.count(7), 1);
            for (int sort = 0; sort < 3; sort++) {
                x = new GreenPath();
                x.be(sort, 1);
                int state = x.count(0);
                DUE.is("of one", x.chance(n), state);
                DUE.is("nothing drawn", x.count(7), 1);
                DUE.is("nothing MET", x.count(2), 0);
                DUE.is("nothing SPENT", x.count(3), 0);
                x.be(sort, 2);
                DUE.is("of two", x.chance(n), 2 * state);
                DUE.is("MET", x.count(2), n);
                DUE.is("drawn", x.count(7) == 1 ? 1 : 0, 0);
            }
        }
        GreenPath x = Due.island(0, 0, 2);
        x.law(5, 20);
        DUE.is("until one is left", x.chance(60), 1);
        DUE.is("MET once", x.count(2), 1);
        DUE.is("two draws alone", x.count(7), (1103515245 + 12345) * 1103515245 + 12345);
    }

    /** Beings as a row, and two of them by draws, as the document tells it: the STATE then, by THIRD. */
    private static int byHand(int[] counts, int seed) {
        StringBuilder row = new StringBuilder();
        row.append("0".repeat(counts[0])).append("1".repeat(counts[1])).append("2".repeat(counts[2]));
        int z = seed * 1103515245 + 12345;
        int place = (z >>> 8) % row.length();
        int one = row.charAt(place) - '0';
        row.deleteCharAt(place);
        z = z * 1103515245 + 12345;
        int other = row.charAt((z >>> 8) % row.length()) - '0';
        int[] then = counts.clone();
        if (one != other) {
            then[one]--;
            then[other]--;
            then[3 - one - other] += 2;
        }
        return Due.state(then[0], then[1], then[2]);
    }

    private static void theOneAndTheOther() {
        DUE.says("Terms", "a draw's rest by how many beings there are: the one (beings stand by SORTS); "
            + "one more draw's rest by 1 less: the other one (of those that are left, in order).");
        int[][] all = {{1, 1, 0}, {0, 1, 1}, {1, 0, 1}, {1, 1, 1}, {2, 0, 0}, {2, 1, 0}, {0, 1, 2}, {4, 4, 4}, {1, 10, 1}, {0, 6, 6},
            {11, 0, 1}, {3, 2, 4}};
        for (int[] counts : all) {
            for (int seed : SEEDS) {
                for (int more = 0; more < 20; more++) {
                    GreenPath x = Due.island(counts[0], counts[1], counts[2]);
                    x.seed(seed + more);
                    DUE.is("by seed " + (seed + more), x.chance(1), byHand(counts, seed + more));
                }
            }
        }
    }

    private static void nothingComes() {
        DUE.says("Terms", "If their PAIR MAY meet, it does; else nothing comes of it.");
        GreenPath x = Due.island(1, 1, 0);
        x.fence(1, 1);
        DUE.is("FENCED", x.chance(60), 182);
        DUE.is("nothing MET", x.count(2), 0);
        DUE.is("nothing SPENT", x.count(3), 0);
        int z = 1;
        for (int i = 0; i < 120; i++) {
            z = z * 1103515245 + 12345;
        }
        DUE.is("drawn all the same", x.count(7), z);
        x.fence(1, 0);
        DUE.is("free", x.chance(1), 2);
        DUE.is("MET", x.count(2), 1);
        x = Due.island(0, 12, 0);
        x.law(3, 30);
        DUE.is("13 would come", x.chance(60), 156);
        DUE.is("nothing MET", x.count(2), 0);
        x.be(1, 11);
        x.fence(1, 1);
        DUE.is("12 come", x.chance(60), 169 + 143);
        DUE.is("once", x.count(2), 1);
    }

    private static void meet() {
        DUE.says("Promise 11", "A MEETING of a PAIR: the STATE then.");
        int[][] then = {{2, 2, 2}, {1, 1, 4}, {1, 4, 1}, {2, 2, 2}, {4, 1, 1}, {2, 2, 2}};
        for (int pair = 0; pair < 6; pair++) {
            GreenPath x = Due.island(2, 2, 2);
            int want = Due.state(then[pair][0], then[pair][1], then[pair][2]);
            DUE.is("meet " + pair, x.meet(pair), want);
            DUE.is("STATE then", x.count(0), want);
            DUE.is("MET then", x.count(2), 1);
            DUE.is("SPENT then", x.count(3), 1);
            DUE.is("nothing drawn", x.count(7), 1);
        }
    }

    private static void meetBeyond() {
        DUE.says("Promise 11", "BEYOND.");
        for (int bad : Refusals.outside(0, 5)) {
            NOT.refused("meet " + bad, Due.BEYOND, x -> x.meet(bad));
        }
        NOT.refused("meet 6 of nobody", Due.BEYOND, GreenPath::new, x -> x.meet(6));
        NOT.refused("meet -1 at 9999", Due.BEYOND, () -> Scenes.met(9999), x -> x.meet(-1));
        NOT.refused("meet 6 at 9999", Due.BEYOND, () -> Scenes.met(9999), x -> x.meet(6));
    }

    private static GreenPath fenced() {
        GreenPath x = Scenes.rich();
        for (int sort = 0; sort < 6; sort++) {
            x.be(sort % 3, sort < 3 ? 0 : 2);
        }
        for (int pair = 0; pair < 6; pair++) {
            x.fence(pair, 1);
        }
        return x;
    }

    /** 12 beings, and of each PAIR there come three. */
    private static GreenPath swelling() {
        GreenPath x = Scenes.crowded();
        for (int pair = 0; pair < 6; pair++) {
            x.law(pair, pair < 3 ? 31 : 65);
            x.fence(pair, 0);
        }
        return x;
    }

    private static void meetMayNot() {
        DUE.says("Promise 11", "STATE: it MAY not be;");
        for (int pair = 0; pair < 6; pair++) {
            int of = pair;
            NOT.refused("meet FENCED " + pair, Due.STATE, EdgesOfMeetingsTest::fenced, x -> x.meet(of));
            NOT.refused("meet to 13 " + pair, Due.STATE, EdgesOfMeetingsTest::swelling, x -> x.meet(of));
            NOT.refused("meet of nobody " + pair, Due.STATE, Scenes::nobody, x -> x.meet(of));
            GreenPath x = fenced();
            x.fence(pair, 0);
            DUE.is("MAY without the fence", x.meet(pair) >= 0 ? 1 : 0, 1);
            x = swelling();
            x.be(0, 4);
            DUE.is("MAY to 12", x.meet(pair) >= 0 ? 1 : 0, 1);
            DUE.is("12 then", x.count(1), 12);
            DUE.is("MAY not to 13", x.meet(pair), Due.STATE);
        }
        for (int sort = 0; sort < 3; sort++) {
            int of = sort;
            int[] alike = {0, 3, 5};
            GreenPath x = new GreenPath();
            x.be(sort, 1);
            for (int pair = 0; pair < 6; pair++) {
                DUE.is("one alone", x.meet(pair), Due.STATE);
            }
            x.be(sort, 2);
            for (int pair = 0; pair < 6; pair++) {
                DUE.is("two alike", x.meet(pair) == Due.STATE ? 0 : 1, pair == alike[of] ? 1 : 0);
            }
        }
    }

    private static void meetAtMost() {
        DUE.says("Promise 11", "MET is 9999.");
        GreenPath x = Scenes.met(9998);
        DUE.is("at 9998", x.meet(5), 2);
        DUE.is("MET", x.count(2), 9999);
        DUE.is("SPENT", x.count(3), 9999);
        NOT.refused("at 9999", Due.STATE, () -> Scenes.met(9999), y -> y.meet(5));
        DUE.is("at 9999 it MAY be", x.ofPair(5, 3), 1);
    }

    private static void chance() {
        DUE.says("Promise 12", "n (1 to 60) CHANCE MEETINGS: the STATE then.");
        int[] many = {1, 2, 59, 60};
        for (int n : many) {
            GreenPath x = Due.island(3, 4, 5);
            GreenPath y = Due.island(3, 4, 5);
            x.seed(5);
            y.seed(5);
            int then = 0;
            for (int i = 0; i < n; i++) {
                then = y.chance(1);
            }
            DUE.is("chance " + n, x.chance(n), then);
            DUE.is("STATE", x.count(0), then);
            for (int what = 1; what <= 7; what++) {
                DUE.is("count " + what, x.count(what), y.count(what));
            }
            DUE.is("MET", x.count(2), n);
        }
    }

    private static void chanceBeyond() {
        DUE.says("Promise 12", "BEYOND.");
        for (int bad : Refusals.outside(1, 60)) {
            NOT.refused("chance " + bad, Due.BEYOND, x -> x.chance(bad));
            NOT.refused("chance " + bad + " of nobody", Due.BEYOND, GreenPath::new, x -> x.chance(bad));
        }
        NOT.refused("chance 0 at 9999", Due.BEYOND, () -> Scenes.met(9999), x -> x.chance(0));
        NOT.refused("chance 61 at 9999", Due.BEYOND, () -> Scenes.met(9999), x -> x.chance(61));
    }

    private static void chanceAtMost() {
        DUE.says("Promise 12", "STATE: MET and n would be above 9999.");
        DUE.is("9938 and 60", Scenes.met(9938).chance(60), 2);
        GreenPath x = Scenes.met(9939);
        DUE.is("9939 and 60", x.chance(60), 2);
        DUE.is("MET", x.count(2), 9999);
        NOT.refused("9940 and 60", Due.STATE, () -> Scenes.met(9940), y -> y.chance(60));
        x = Scenes.met(9940);
        DUE.is("9940 and 59", x.chance(59), 2);
        NOT.refused("9999 and 1", Due.STATE, () -> Scenes.met(9999), y -> y.chance(1));
        NOT.refused("9999 and 60", Due.STATE, () -> Scenes.met(9999), y -> y.chance(60));
        DUE.is("9998 and 1", Scenes.met(9998).chance(1), 2);
        NOT.refused("9998 and 2", Due.STATE, () -> Scenes.met(9998), y -> y.chance(2));
        NOT.refused("9999 and 1 of one", Due.STATE, EdgesOfMeetingsTest::oneAtMost, y -> y.chance(1));
        NOT.refused("9999 and 1 FENCED", Due.STATE, EdgesOfMeetingsTest::fencedAtMost, y -> y.chance(1));
    }

    private static GreenPath oneAtMost() {
        GreenPath x = Scenes.met(9999);
        x.be(2, 1);
        return x;
    }

    private static GreenPath fencedAtMost() {
        GreenPath x = Scenes.met(9999);
        x.fence(5, 1);
        return x;
    }
}
