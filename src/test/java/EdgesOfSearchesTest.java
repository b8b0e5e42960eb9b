/** The edges of what can be, as part 3 of the Terms and promises 13 to 16 and 19 to 23 name them, sentence by sentence. */
public final class EdgesOfSearchesTest {
    private static final Due DUE = new Due("EdgesOfSearchesTest");
    private static final Refusals NOT = new Refusals(DUE);
    private static final int MIN = Integer.MIN_VALUE;
    private static final int MAX = Integer.MAX_VALUE;
    private static final int[] NO_STATES = {-1, 25, 157, 2029, 2196, 2197, 2198, 169 * 11 + 13 + 1, 169 + 12, 169 + 13 * 12,
        MIN, MIN + 1, MAX, MAX - 1, 65536, -65536, MIN + 182};

    public static void main(String[] args) {
        noStates();
        reachTerm();
        wayTerm();
        ends();
        canTerm();
        whichTerm();
        reachedTerm();
        waysTerm();
        allWaysTerm();
        fencesTerm();
        fencesWhich();
        wasTerm();
        wasLeast();
        turnsOver();
        wishes();
        forceTerm();
        reach();
        way();
        can();
        reached();
        ways();
        allWays();
        fences();
        was();
        force();
        DUE.end();
    }

    /** So many of SORTS 0 and 1; 0 and 1 become 1, and all else is FENCED: as many MEETINGS as there are of SORT 0. */
    private static GreenPath eater(int first, int second) {
        GreenPath x = Due.island(first, second, 0);
        x.law(1, 20);
        for (int pair = 0; pair < 6; pair++) {
            x.fence(pair, pair == 1 ? 0 : 1);
        }
        return x;
    }

    private static boolean isState(int told) {
        return told >= 0 && told < 2197 && told / 169 + told / 13 % 13 + told % 13 <= 12;
    }

    private static void noStates() {
        DUE.says("Terms", "(those of more than 12 together are no STATES).");
        GreenPath x = new GreenPath();
        int states = 0;
        for (int told = -30; told < 2400; told++) {
            if (told % 100 == 0) {
                x = new GreenPath();
            }
            boolean is = isState(told);
            states += is ? 1 : 0;
            DUE.is("reach " + told, x.reach(told), told == 0 ? 0 : is ? Due.NONE : Due.BEYOND);
            DUE.is("way " + told, x.way(told, 0), is ? Due.NONE : Due.BEYOND);
            DUE.is("ways " + told, x.ways(0, told), told == 0 ? 1 : is ? 0 : Due.BEYOND);
        }
        DUE.is("all STATES", states, 455);
        int[] edges = {0, 12, 13, 24, 156, 169, 2028};
        for (int told : edges) {
            DUE.is("a STATE " + told, x.ways(1, told), 0);
        }
        for (int told : NO_STATES) {
            DUE.is("no STATE " + told, x.reach(told), Due.BEYOND);
        }
    }

    private static void reachTerm() {
        DUE.says("Terms", "REACH of a STATE from that of now: the fewest MEETINGS (0, if it is that), each of which MAY be.");
        GreenPath x = Due.island(1, 1, 0);
        DUE.is("now", x.reach(182), 0);
        DUE.is("by one", x.reach(2), 1);
        DUE.is("not", x.reach(13), Due.NONE);
        x.fence(1, 1);
        DUE.is("now FENCED", x.reach(182), 0);
        DUE.is("FENCED", x.reach(2), Due.NONE);
        x = eater(11, 1);
        for (int left = 0; left <= 11; left++) {
            DUE.is("by " + (11 - left), x.reach(Due.state(left, 1, 0)), 11 - left);
        }
        DUE.is("not back", eater(10, 1).reach(Due.state(11, 1, 0)), Due.NONE);
        x = eater(5, 5);
        x.law(1, 30);
        DUE.is("11", x.reach(Due.state(6, 5, 0)), 1);
        DUE.is("12", x.reach(Due.state(7, 5, 0)), 2);
        DUE.is("13", x.reached(), 3);
        x = eater(7, 5);
        x.law(1, 30);
        DUE.is("at 12", x.reached(), 1);
        DUE.is("at 12 now", x.reach(Due.state(7, 5, 0)), 0);
        x = Due.island(12, 0, 0);
        DUE.is("the greatest STATE", x.reach(2028), 0);
    }

    private static void wayTerm() {
        DUE.says("Terms", "WAY: by PAIRS, of several with so few the first as a row.");
        GreenPath x = Due.island(2, 2, 2);
        int[] rows = {0, 3, 5};
        for (int pair = 0; pair < 6; pair++) {
            x.fence(pair, 1);
        }
        for (int pair : rows) {
            x.law(pair, 20);
            x.fence(pair, 0);
        }
        DUE.is("reach", x.reach(Due.state(1, 1, 1)), 3);
        for (int i = 0; i < 3; i++) {
            DUE.is("the first of six rows", x.way(Due.state(1, 1, 1), i), rows[i]);
        }
        x = Due.island(2, 0, 2);
        for (int pair = 1; pair < 5; pair++) {
            x.fence(pair, 1);
        }
        x.law(0, 51);
        x.law(5, 50);
        DUE.is("0, 5 ahead of 5, 0", x.way(26, 0), 0);
        DUE.is("and then 5", x.way(26, 1), 5);
        // of PAIR 0 nothing new comes: the row 0, 5 begins with less, yet is longer
        x = Due.island(2, 0, 2);
        x.law(0, 0);
        x.law(5, 52);
        DUE.is("the short one", x.reach(Due.state(3, 0, 0)), 1);
        DUE.is("not the long one", x.way(Due.state(3, 0, 0), 0), 5);
        x = eater(11, 1);
        for (int i = 0; i < 11; i++) {
            DUE.is("way " + i, x.way(13, i), 1);
        }
        DUE.is("way 11", x.way(13, 11), Due.NONE);
    }

    private static void ends() {
        DUE.says("Terms", "An END of a SORT: all beings are of it (one at least):");
        for (int sort = 0; sort < 3; sort++) {
            GreenPath x = new GreenPath();
            DUE.is("nobody", x.can(sort, 0), Due.NONE);
            DUE.is("nobody kept away", x.fences(sort, 0), 0);
            DUE.is("nobody forced", x.force(sort), Due.NONE);
            for (int v = 1; v <= 12; v++) {
                x = new GreenPath();
                x.be(sort, v);
                for (int other = 0; other < 3; other++) {
                    DUE.is("END " + other + " of " + v, x.can(other, 0), other == sort ? 0 : Due.NONE);
                    DUE.is("END " + other + " of " + v, x.fences(other, 0), other == sort ? Due.NONE : 0);
                    DUE.is("END " + other + " of " + v, x.force(other), other == sort ? 0 : Due.NONE);
                }
            }
            x.be(sort, 11);
            x.be((sort + 1) % 3, 1);
            DUE.is("all but one", x.can(sort, 0) == 0 ? 1 : 0, 0);
            DUE.is("all but one, no END now", x.fences(sort, 0) == Due.NONE ? 1 : 0, 0);
        }
    }

    private static void canTerm() {
        DUE.says("Terms", "CAN: the fewest MEETINGS to any such STATE;");
        for (int first = 0; first <= 11; first++) {
            DUE.is("by " + first, eater(first, 1).can(1, 0), first);
        }
        GreenPath x = Due.island(1, 1, 10);
        DUE.is("to 12", x.can(2, 0), 1);
        x = eater(2, 2);
        x.law(1, 66);
        Scenes.text(x, 0, "0");
        DUE.is("to six", x.can(0, 0), 2);
        x.fence(1, 1);
        DUE.is("FENCED", x.can(0, 0), Due.NONE);
    }

    private static void whichTerm() {
        DUE.says("Terms", "WHICH: the least of those that come with so few.");
        DUE.is("now", eater(0, 12).can(1, 1), 156);
        DUE.is("one alone", eater(11, 1).can(1, 1), 13);
        DUE.is("11", eater(1, 11).can(1, 1), 143);
        // by PAIRS 1, 1 there come 6 of SORT 0, by 3, 2 there come 2: as few MEETINGS
        GreenPath x = Due.island(2, 2, 0);
        Scenes.text(x, 0, "0");
        x.law(1, 66);
        x.law(3, 50);
        x.law(2, 51);
        DUE.is("so few", x.can(0, 0), 2);
        DUE.is("the least", x.can(0, 1), 338);
        // 0 and 1 become 0 three times over at once, and by way of PAIR 0 less come, but later
        x = Due.island(2, 1, 0);
        x.law(0, 20);
        Scenes.text(x, 0, "0");
        x.law(1, 66);
        DUE.is("nearer", x.can(0, 0), 1);
        DUE.is("nearer than less", x.can(0, 1), 4 * 169);
        DUE.is("less is there", x.reach(3 * 169), 2);
    }

    private static void reachedTerm() {
        DUE.says("Terms", "REACHED: how many STATES can be reached (that of now, too).");
        DUE.is("of nobody", new GreenPath().reached(), 1);
        DUE.is("of one", Due.island(0, 1, 0).reached(), 1);
        DUE.is("of two alike", Due.island(0, 2, 0).reached(), 1);
        DUE.is("of two unlike", Due.island(1, 1, 0).reached(), 2);
        for (int first = 0; first <= 11; first++) {
            DUE.is("of " + first + " and 1", eater(first, 1).reached(), first + 1);
        }
        // all but that of nobody
        GreenPath x = ruled(new int[] {33, 41, 45, 54, 26, 56}, 4, 0, 7);
        DUE.is("the most", x.reached(), 454);
        int found = 0;
        for (int told = 0; told <= 2028; told++) {
            if (isState(told)) {
                found += x.reach(told) >= 0 ? 1 : 0;
            }
        }
        DUE.is("as many as reach finds", found, 454);
    }

    private static void waysTerm() {
        DUE.says("Terms", "WAYS of n (0 to 6) MEETINGS to a STATE: beings are told apart: at each MEETING any two of those that "
            + "there are then (of a PAIR that MAY meet): in how many ways all goes so that it ends in that STATE.");
        GreenPath x = Due.island(2, 1, 0);
        int[][] known = {{0, 351, 1}, {0, 171, 0}, {1, 351, 1}, {1, 171, 2}, {1, 27, 0}, {2, 351, 1}, {2, 171, 4}, {2, 27, 4}};
        for (int[] row : known) {
            DUE.is("ways " + row[0] + " " + row[1], x.ways(row[0], row[1]), row[2]);
        }
        for (int pair = 0; pair < 6; pair += 5) {
            x.fence(pair, 1);
        }
        DUE.is("ways FENCED", x.ways(1, 351), 0);
        DUE.is("ways FENCED", x.ways(2, 171), 0);
        DUE.is("ways free", x.ways(2, 27), 4);
        x = Due.island(0, 3, 0);
        long ways = 1;
        for (int n = 0; n <= 6; n++) {
            DUE.is("ways of three " + n, x.ways(n, 39), ways);
            ways *= 3;
        }
        x = eater(1, 11);
        x.law(1, 30);
        DUE.is("13 come of it", x.ways(1, Due.state(1, 11, 0)), 0);
        x = eater(1, 10);
        x.law(1, 30);
        DUE.is("12 come of it", x.ways(1, Due.state(2, 10, 0)), 10);
        DUE.is("none behind it", x.allWays(2), 0);
    }

    private static void allWaysTerm() {
        DUE.says("Terms", "ALL WAYS of n: together, to all STATES.");
        GreenPath x = Due.island(0, 0, 12);
        long all = 1;
        for (int n = 0; n <= 6; n++) {
            DUE.is("of twelve " + n, x.allWays(n), all);
            DUE.is("to one " + n, x.ways(n, 12), all);
            all *= 66;
        }
        x = Due.island(2, 1, 0);
        long three = 1;
        for (int n = 0; n <= 6; n++) {
            DUE.is("of three " + n, x.allWays(n), three);
            three *= 3;
        }
        x = Due.island(0, 1, 0);
        DUE.is("of one, none", x.allWays(0), 1);
        DUE.is("of one", x.allWays(1), 0);
        DUE.is("of one, six", x.allWays(6), 0);
        DUE.is("as many as there are to be eaten", eater(6, 1).allWays(6), 720);
        DUE.is("too few to be eaten", eater(5, 1).allWays(6), 0);
    }

    private static void fencesTerm() {
        DUE.says("Terms", "FENCES of an END of a SORT: the fewest PAIRS more that must be FENCED, so that it can't be reached: "
            + "how many (0, if it can't);");
        GreenPath x = Due.island(1, 1, 0);
        DUE.is("one", x.fences(2, 0), 1);
        DUE.is("it can't", x.fences(0, 0), 0);
        DUE.is("it can't, which", x.fences(0, 1), 0);
        x.fence(1, 1);
        DUE.is("no more", x.fences(2, 0), 0);
        DUE.is("no more, which", x.fences(2, 1), 0);
        DUE.is("of nobody", new GreenPath().fences(1, 0), 0);
        x = Due.island(2, 2, 0);
        x.law(0, 50);
        x.law(1, 52);
        x.law(3, 51);
        DUE.is("two", x.fences(0, 0), 2);
        x.fence(3, 1);
        DUE.is("one more", x.fences(0, 0), 1);
        x.fence(1, 1);
        DUE.is("none more", x.fences(0, 0), 0);
        DUE.is("an END of 12", Due.island(1, 1, 10).fences(2, 0), 1);
        DUE.is("an END of 12, which", Due.island(1, 1, 10).fences(2, 1), 2);
        DUE.is("an END of one", eater(1, 1).fences(1, 0), 1);
        three(7, new int[] {62, 24, 15, 54, 57, 59}, 1, 4, 6);
        three(38, new int[] {43, 47, 12, 67, 11, 60}, 0, 2, 2);
    }

    /** Three fences keep the END of SORT 1 away, and no two. */
    private static void three(int want, int[] laws, int first, int second, int third) {
        GreenPath x = ruled(laws, first, second, third);
        DUE.is("three", x.fences(1, 0), 3);
        DUE.is("which three", x.fences(1, 1), want);
        for (int set = 0; set < 64; set++) {
            boolean few = Integer.bitCount(set) < 3 || Integer.bitCount(set) == 3 && set < want;
            if (few || set == want) {
                GreenPath y = ruled(laws, first, second, third);
                for (int pair = 0; pair < 6; pair++) {
                    y.fence(pair, set >> pair & 1);
                }
                DUE.is("can by " + set, y.can(1, 0) == Due.NONE ? 0 : 1, few ? 1 : 0);
            }
        }
        x.fence(5, 1);
        boolean among = (want >> 5 & 1) == 1;
        DUE.is("with one of them", x.fences(1, 0) <= (among ? 2 : 3) ? 1 : 0, 1);
        DUE.is("none that is FENCED", x.fences(1, 1) >> 5, 0);
    }

    private static void fencesWhich() {
        DUE.says("Terms", "which, as bits, the least of those.");
        DUE.is("PAIR 1", Due.island(1, 1, 0).fences(2, 1), 2);
        DUE.is("PAIR 2", Due.island(1, 0, 1).fences(1, 1), 4);
        DUE.is("PAIR 4", Due.island(0, 1, 1).fences(0, 1), 16);
        GreenPath x = Due.island(2, 1, 0);
        x.law(0, 51);
        x.law(1, 20);
        x.law(3, 51);
        x.fence(2, 1);
        // 0 and 0 become 1, and then 1 and 1 become 0: a fence at either does
        DUE.is("either does, how many", x.fences(0, 0), 1);
        DUE.is("the least does", x.fences(0, 1), 1);
        int[] likes = {0, 3, 5};
        for (int sort = 0; sort < 3; sort++) {
            GreenPath y = new GreenPath();
            y.be(sort, 2);
            int next = (sort + 1) % 3;
            y.law(likes[sort], 50 + Math.floorMod(next - 2 * sort, 3));
            DUE.is("PAIR " + likes[sort], y.fences(next, 1), 1 << likes[sort]);
        }
    }

    private static void wasTerm() {
        DUE.says("Terms", "WAS by n (0 to 6): how many STATES there are from which n MEETINGS, each of which MAY be, "
            + "can lead to that of now;");
        DUE.is("nobody 0", new GreenPath().was(0, 0), 1);
        DUE.is("nobody 1", new GreenPath().was(1, 0), 0);
        GreenPath x = eater(1, 1);
        for (int n = 0; n <= 6; n++) {
            DUE.is("was " + n, x.was(n, 0), 1);
        }
        x = eater(6, 1);
        DUE.is("as many as 12", x.was(5, 0), 1);
        DUE.is("never 13", x.was(6, 0), 0);
        x.fence(1, 1);
        DUE.is("FENCED 0", x.was(0, 0), 1);
        DUE.is("FENCED 1", x.was(1, 0), 0);
        int[][] made = {{2, 0, 0}, {0, 2, 0}, {0, 0, 2}};
        int[] likes = {0, 3, 5};
        int[] unlikes = {4, 2, 1};
        for (int sort = 0; sort < 3; sort++) {
            x = Due.island(made[sort][0], made[sort][1], made[sort][2]);
            DUE.is("itself, or the other two SORTS", x.was(1, 0), 2);
            x.fence(likes[sort], 1);
            DUE.is("the other two SORTS alone", x.was(1, 0), 1);
            x.fence(likes[sort], 0);
            x.fence(unlikes[sort], 1);
            DUE.is("itself alone", x.was(1, 0), 1);
            DUE.is("itself", x.was(1, 1), x.count(0));
        }
        x = Due.island(0, 0, 2);
        DUE.is("six ago", x.was(6, 0), 2);
        x.fence(5, 1);
        DUE.is("0 and 1 alone", x.was(1, 0), 1);
        DUE.is("nothing two ago", x.was(2, 0), 0);
    }

    private static void wasLeast() {
        DUE.says("Terms", "the least.");
        GreenPath x = eater(1, 1);
        for (int n = 0; n <= 6; n++) {
            DUE.is("was " + n, x.was(n, 1), Due.state(1 + n, 1, 0));
        }
        DUE.is("nobody", new GreenPath().was(0, 1), 0);
        DUE.is("itself", Due.island(0, 0, 2).was(1, 1), 2);
        DUE.is("the greatest STATE", Due.island(12, 0, 0).was(0, 1), 2028);
        x = Due.island(2, 0, 0);
        DUE.is("1 and 2 ahead of itself", x.was(1, 1), 14);
    }

    private static void turnsOver() {
        DUE.says("Terms", "FORCE of an END of a SORT: two by turns tell the next MEETING (any that MAY be; if none may, it is over);");
        DUE.is("none may at all", Due.island(1, 0, 0).force(1), Due.NONE);
        // behind the only MEETING none may be: 1 and 2 are left, and it is no END
        GreenPath x = eater(1, 1);
        x.be(2, 1);
        DUE.is("over behind one", x.can(1, 0), Due.NONE);
        DUE.is("over behind one", x.force(1), Due.NONE);
        x.be(0, 2);
        DUE.is("over behind two", x.force(1), Due.NONE);
        x.be(2, 0);
        DUE.is("not over", x.force(1), 2);
    }

    private static void wishes() {
        DUE.says("Terms", "the first one wishes that END (now, too), the other one doesn't:");
        DUE.is("now", Due.island(0, 3, 0).force(1), 0);
        DUE.is("12 now", Due.island(0, 0, 12).force(2), 0);
        DUE.is("not now", Due.island(0, 3, 0).force(0), Due.NONE);
        GreenPath x = Due.island(1, 1, 1);
        for (int sort = 0; sort < 3; sort++) {
            DUE.is("the first one chooses", x.force(sort), 1);
        }
        // the other one lets 0 and 0 meet as long as there are two
        x = Due.island(2, 1, 0);
        x.law(1, 20);
        DUE.is("one is left to the other", x.force(1), 2);
        x.be(0, 3);
        DUE.is("two are left to the other", x.force(1), 4);
        DUE.is("together they need less", x.can(1, 0), 3);
        x = Due.island(2, 1, 0);
        DUE.is("the other one turns away", x.force(2), Due.NONE);
    }

    private static void forceTerm() {
        DUE.says("Terms", "by how few MEETINGS (0 to 10) the first one can force it, whatever the other one tells.");
        for (int first = 0; first <= 11; first++) {
            DUE.is("by " + first, eater(first, 1).force(1), first <= 10 ? first : Due.NONE);
        }
        GreenPath x = Due.island(0, 1, 0);
        x.law(1, 20);
        int[] turns = {0, 1, 2, 4, 6, 8, 10};
        for (int first = 0; first <= 6; first++) {
            x.be(0, first);
            DUE.is("put off, " + first, x.force(1), turns[first]);
        }
        x.be(0, 7);
        DUE.is("put off too far", x.force(1), Due.NONE);
        DUE.is("yet it can be", x.can(1, 0), 7);
        forceInARing();
    }

    private static GreenPath ruled(int[] laws, int first, int second, int third) {
        GreenPath x = Due.island(first, second, third);
        for (int pair = 0; pair < 6; pair++) {
            x.law(pair, laws[pair]);
        }
        return x;
    }

    /** The other one leads once round a ring, and then must leave the choice to the first one. */
    private static void forceInARing() {
        GreenPath x = ruled(new int[] {10, 52, 62, 20, 40, 60}, 0, 2, 1);
        x.fence(0, 1);
        x.fence(3, 1);
        // 0 2 1 by PAIR 4 to 0 1 2; the other one by 4 to 0 0 3; by 5 to 0 2 1; by 4 to 0 1 2; the first one by 5 to 0 3 0
        DUE.is("round a ring of three", x.force(1), 5);
        DUE.is("together at once", x.can(1, 0), 2);
        x = ruled(new int[] {10, 40, 10, 61, 50, 60}, 2, 0, 1);
        x.fence(0, 1);
        // 2 0 1 by PAIR 2 to 1 2 0; the other one by 1 to 0 3 0; by 3 to 2 1 0; by 1 to 1 2 0; the first one by 3 to 3 0 0
        DUE.is("round another ring", x.force(0), 5);
        DUE.is("together at once", x.can(0, 0), 2);
    }

    private static void noneOfState(String call, int state) {
        NOT.refused(call + " reach " + state, Due.NONE, x -> x.reach(state));
        NOT.refused(call + " way " + state, Due.NONE, x -> x.way(state, 0));
    }

    private static void reach() {
        DUE.says("Promise 13", "REACH of a STATE.");
        GreenPath x = Scenes.rich();
        DUE.is("now", x.reach(x.count(0)), 0);
        DUE.is("by five", x.reach(10), 5);
        DUE.is("nothing MET", x.count(2), 4);
        DUE.says("Promise 13", "BEYOND: no STATE.");
        for (int bad : NO_STATES) {
            NOT.refused("reach " + bad, Due.BEYOND, y -> y.reach(bad));
        }
        DUE.says("Promise 13", "NONE: it can't be.");
        int[] edges = {0, 1, 12, 13, 24, 156, 169, 2028};
        for (int state : edges) {
            if (state != 12 && state != 24) {
                noneOfState("can't be", state);
            }
        }
        NOT.refused("reach of nobody", Due.NONE, GreenPath::new, y -> y.reach(1));
    }

    private static void way() {
        DUE.says("Promise 14", "WAY to a STATE: the i-th PAIR.");
        GreenPath x = eater(11, 1);
        DUE.is("way 0", x.way(13, 0), 1);
        DUE.is("way 10", x.way(13, 10), 1);
        DUE.says("Promise 14", "BEYOND: no STATE, i below 0.");
        int[] below = {-1, -2, -12, MIN, MIN + 1};
        for (int i : below) {
            NOT.refused("way 10 " + i, Due.BEYOND, y -> y.way(10, i));
            NOT.refused("way to where it can't be " + i, Due.BEYOND, y -> y.way(0, i));
            NOT.refused("way to no STATE " + i, Due.BEYOND, y -> y.way(25, i));
        }
        for (int bad : NO_STATES) {
            NOT.refused("way " + bad, Due.BEYOND, y -> y.way(bad, 0));
            NOT.refused("way " + bad + " far", Due.BEYOND, y -> y.way(bad, MAX));
        }
        DUE.says("Promise 14", "NONE: it can't be reached, or there is no i-th.");
        int[] far = {5, 6, 41, 65536, MAX - 1, MAX};
        for (int i : far) {
            NOT.refused("way 10 " + i, Due.NONE, y -> y.way(10, i));
            NOT.refused("way 0 " + i, Due.NONE, y -> y.way(0, i));
            NOT.refused("way of now " + i, Due.NONE, y -> y.way(525, i));
        }
        NOT.refused("way of now", Due.NONE, y -> y.way(525, 0));
        NOT.refused("way to where it can't be", Due.NONE, y -> y.way(0, 0));
        DUE.is("the last one", Scenes.rich().way(10, 4) >= 0 ? 1 : 0, 1);
    }

    private static void can() {
        DUE.says("Promise 15", "END of a SORT: what 0 CAN, 1 WHICH.");
        GreenPath x = Due.island(1, 1, 10);
        DUE.is("CAN", x.can(2, 0), 1);
        DUE.is("WHICH", x.can(2, 1), 12);
        x = Due.island(0, 12, 0);
        DUE.is("CAN now", x.can(1, 0), 0);
        DUE.is("WHICH now", x.can(1, 1), 156);
        DUE.says("Promise 15", "BEYOND.");
        for (int bad : Refusals.outside(0, 2)) {
            NOT.refused("can " + bad, Due.BEYOND, y -> y.can(bad, 0));
            NOT.refused("which " + bad, Due.BEYOND, y -> y.can(bad, 1));
        }
        for (int bad : Refusals.outside(0, 1)) {
            NOT.refused("can 2, what " + bad, Due.BEYOND, y -> y.can(2, bad));
            NOT.refused("can 0, what " + bad, Due.BEYOND, y -> y.can(0, bad));
        }
        NOT.refused("can 3 of nobody", Due.BEYOND, GreenPath::new, y -> y.can(3, 0));
        NOT.refused("can what 2 of nobody", Due.BEYOND, GreenPath::new, y -> y.can(0, 2));
        DUE.says("Promise 15", "NONE: it can't be reached.");
        for (int what = 0; what < 2; what++) {
            int of = what;
            NOT.refused("can 0, what " + what, Due.NONE, y -> y.can(0, of));
            NOT.refused("can 1, what " + what, Due.NONE, y -> y.can(1, of));
            NOT.refused("can of nobody, what " + what, Due.NONE, GreenPath::new, y -> y.can(2, of));
        }
    }

    private static void reached() {
        DUE.says("Promise 16", "REACHED.");
        GreenPath x = Due.island(1, 1, 0);
        DUE.is("two", x.reached(), 2);
        DUE.is("again", x.reached(), 2);
        x.meet(1);
        DUE.is("one", x.reached(), 1);
        DUE.is("the most at MET 9999", Scenes.met(9999).reached(), 1);
        x = Scenes.met(9999);
        x.be(0, 1);
        DUE.is("MET bars none", x.reached(), Due.island(1, 0, 2).reached());
    }

    private static void ways() {
        DUE.says("Promise 19", "WAYS.");
        GreenPath x = Due.island(0, 0, 12);
        DUE.is("none", x.ways(0, 12), 1);
        DUE.is("none elsewhere", x.ways(0, 0), 0);
        DUE.is("six", x.ways(6, 12), 82653950016L);
        DUE.is("six elsewhere", x.ways(6, 2028), 0);
        DUE.says("Promise 19", "BEYOND.");
        for (int bad : Refusals.outside(0, 6)) {
            NOT.refused("ways " + bad, Due.BEYOND, y -> y.ways(bad, 525));
            NOT.refused("ways " + bad + " to no STATE", Due.BEYOND, y -> y.ways(bad, -1));
        }
        for (int bad : NO_STATES) {
            NOT.refused("ways 0 " + bad, Due.BEYOND, y -> y.ways(0, bad));
            NOT.refused("ways 6 " + bad, Due.BEYOND, y -> y.ways(6, bad));
        }
    }

    private static void allWays() {
        DUE.says("Promise 20", "ALL WAYS.");
        DUE.is("none", new GreenPath().allWays(0), 1);
        DUE.is("six", Due.island(4, 4, 4).allWays(6), 82653950016L);
        DUE.says("Promise 20", "BEYOND.");
        for (int bad : Refusals.outside(0, 6)) {
            NOT.refused("allWays " + bad, Due.BEYOND, y -> y.allWays(bad));
        }
        DUE.is("a long", new GreenPath().allWays(7), -1000000001L);
    }

    private static GreenPath ended() {
        GreenPath x = Scenes.nobody();
        x.be(1, 12);
        return x;
    }

    private static void fences() {
        DUE.says("Promise 21", "FENCES of an END of a SORT: what 0 how many, 1 which.");
        DUE.is("how many", Scenes.rich().fences(2, 0), 1);
        DUE.is("which", Scenes.rich().fences(2, 1), 4);
        DUE.says("Promise 21", "BEYOND.");
        for (int bad : Refusals.outside(0, 2)) {
            NOT.refused("fences " + bad, Due.BEYOND, y -> y.fences(bad, 0));
            NOT.refused("which " + bad, Due.BEYOND, y -> y.fences(bad, 1));
        }
        for (int bad : Refusals.outside(0, 1)) {
            NOT.refused("fences 2, what " + bad, Due.BEYOND, y -> y.fences(2, bad));
            NOT.refused("fences now, what " + bad, Due.BEYOND, EdgesOfSearchesTest::ended, y -> y.fences(1, bad));
        }
        DUE.says("Promise 21", "NONE: it is so now.");
        NOT.refused("fences now", Due.NONE, EdgesOfSearchesTest::ended, y -> y.fences(1, 0));
        NOT.refused("which now", Due.NONE, EdgesOfSearchesTest::ended, y -> y.fences(1, 1));
        DUE.is("not so now", ended().fences(0, 0) >= 0 ? 1 : 0, 1);
        DUE.is("of one now", Due.island(0, 0, 1).fences(2, 0), Due.NONE);
        DUE.is("of nobody", new GreenPath().fences(2, 0), 0);
    }

    private static void was() {
        DUE.says("Promise 22", "WAS by n: what 0 how many, 1 the least STATE.");
        DUE.is("how many", Scenes.rich().was(0, 0), 1);
        DUE.is("the least", Scenes.rich().was(0, 1), 525);
        DUE.is("how many six ago", eater(1, 1).was(6, 0), 1);
        DUE.is("the least six ago", eater(1, 1).was(6, 1), Due.state(7, 1, 0));
        DUE.says("Promise 22", "BEYOND.");
        for (int bad : Refusals.outside(0, 6)) {
            NOT.refused("was " + bad, Due.BEYOND, y -> y.was(bad, 0));
            NOT.refused("was " + bad + " least", Due.BEYOND, y -> y.was(bad, 1));
        }
        for (int bad : Refusals.outside(0, 1)) {
            NOT.refused("was 0, what " + bad, Due.BEYOND, y -> y.was(0, bad));
            NOT.refused("was 6 of nobody, what " + bad, Due.BEYOND, GreenPath::new, y -> y.was(6, bad));
        }
        DUE.says("Promise 22", "NONE (what 1): there is none.");
        for (int n = 1; n <= 6; n++) {
            int of = n;
            NOT.refused("was of nobody " + n, Due.NONE, GreenPath::new, y -> y.was(of, 1));
            DUE.is("was of nobody, how many", new GreenPath().was(n, 0), 0);
            DUE.is("no ERROR", Scenes.nobody().was(n, 0), 0);
        }
    }

    private static void force() {
        DUE.says("Promise 23", "FORCE.");
        DUE.is("now", eater(0, 1).force(1), 0);
        DUE.is("by ten", eater(10, 1).force(1), 10);
        DUE.is("by nine", Scenes.rich().force(2), 9);
        DUE.says("Promise 23", "BEYOND.");
        for (int bad : Refusals.outside(0, 2)) {
            NOT.refused("force " + bad, Due.BEYOND, y -> y.force(bad));
            NOT.refused("force " + bad + " of nobody", Due.BEYOND, GreenPath::new, y -> y.force(bad));
        }
        DUE.says("Promise 23", "NONE: not by 10.");
        NOT.refused("force 0", Due.NONE, y -> y.force(0));
        NOT.refused("force of nobody", Due.NONE, GreenPath::new, y -> y.force(2));
        NOT.refused("force by eleven", Due.NONE, () -> eater(11, 1), y -> y.force(1));
    }
}
