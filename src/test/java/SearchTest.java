/** Promises 13 to 23: what can be. */
public final class SearchTest {
    private static final Due DUE = new Due("SearchTest");

    public static void main(String[] args) {
        twoUnlike();
        eaten();
        firstRow();
        leastEnd();
        growing();
        rests();
        sureEnds();
        fencesThatAre();
        longWays();
        changedRules();
        twelve();
        nobody();
        wrongInputs();
        DUE.end();
    }

    private static void twoUnlike() {
        GreenPath x = Due.island(1, 1, 0);
        DUE.is("reach now", x.reach(182), 0);
        DUE.is("reach", x.reach(2), 1);
        DUE.is("reach not", x.reach(26), Due.NONE);
        DUE.is("way", x.way(2, 0), 1);
        DUE.is("way 1", x.way(2, 1), Due.NONE);
        DUE.is("way now", x.way(182, 0), Due.NONE);
        DUE.is("way not", x.way(26, 0), Due.NONE);
        DUE.is("can", x.can(2, 0), 1);
        DUE.is("which", x.can(2, 1), 2);
        DUE.is("can not", x.can(0, 0), Due.NONE);
        DUE.is("which not", x.can(0, 1), Due.NONE);
        DUE.is("reached", x.reached(), 2);
        DUE.is("ways 0", x.ways(0, 182), 1);
        DUE.is("ways 0 else", x.ways(0, 2), 0);
        DUE.is("ways 1", x.ways(1, 2), 1);
        DUE.is("ways 1 here", x.ways(1, 182), 0);
        DUE.is("allWays 6", x.allWays(6), 1);
        DUE.is("was 1", x.was(1, 0), 0);
        DUE.is("was least", x.was(1, 1), Due.NONE);
        DUE.is("was 0", x.was(0, 0), 1);
        DUE.is("was 0 least", x.was(0, 1), 182);
        DUE.is("force", x.force(2), 1);
        DUE.is("fences", x.fences(2, 0), 1);
        DUE.is("fences which", x.fences(2, 1), 2);
        DUE.is("fences of none", x.fences(0, 0), 0);
        DUE.is("fences of none which", x.fences(0, 1), 0);
        x.fence(1, 1);
        DUE.is("reached FENCED", x.reached(), 1);
        DUE.is("fences FENCED", x.fences(2, 0), 0);
        DUE.is("force FENCED", x.force(2), Due.NONE);
        x.fence(1, 0);
        x.meet(1);
        DUE.is("can now", x.can(2, 0), 0);
        DUE.is("which now", x.can(2, 1), 2);
        DUE.is("force now", x.force(2), 0);
        DUE.is("fences now", x.fences(2, 0), Due.NONE);
        DUE.is("fences now which", x.fences(2, 1), Due.NONE);
        DUE.is("was 1 then", x.was(1, 0), 2);
        DUE.is("was 1 then least", x.was(1, 1), 2);
        DUE.is("was 6 then", x.was(6, 0), 2);
        DUE.is("count stays", x.count(0), 2);
        DUE.is("MET stays", x.count(2), 1);
    }

    private static void eaten() {
        GreenPath x = Due.island(3, 1, 0);
        x.law(1, 20);
        x.fence(0, 1);
        DUE.is("reach", x.reach(13), 3);
        for (int i = 0; i < 3; i++) {
            DUE.is("way", x.way(13, i), 1);
        }
        DUE.is("way 3", x.way(13, 3), Due.NONE);
        DUE.is("can", x.can(1, 0), 3);
        DUE.is("which", x.can(1, 1), 13);
        DUE.is("reached", x.reached(), 4);
        DUE.is("ways", x.ways(3, 13), 6);
        DUE.is("allWays 2", x.allWays(2), 6);
        DUE.is("allWays 4", x.allWays(4), 0);
        DUE.is("force", x.force(1), 3);
        DUE.is("fences", x.fences(1, 1), 2);
        DUE.is("was", x.was(1, 0), 2);
        DUE.is("was least", x.was(1, 1), 196);
        x.be(0, 10);
        DUE.is("force by 10", x.force(1), 10);
        x.be(0, 11);
        DUE.is("not by 10", x.force(1), Due.NONE);
        DUE.is("can by 11", x.can(1, 0), 11);
    }

    private static void firstRow() {
        GreenPath x = Due.island(2, 2, 0);
        x.law(0, 20);
        x.law(3, 20);
        x.fence(1, 1);
        DUE.is("reach", x.reach(182), 2);
        DUE.is("way 0", x.way(182, 0), 0);
        DUE.is("way 1", x.way(182, 1), 3);
        DUE.is("way 2", x.way(182, 2), Due.NONE);
        DUE.is("reached", x.reached(), 4);
    }

    private static void leastEnd() {
        GreenPath x = Due.island(0, 1, 1);
        DUE.is("two of 0", x.can(0, 1), 338);
        x.law(4, 50);
        DUE.is("one of 0", x.can(0, 1), 169);
        x.law(4, 66);
        DUE.is("three of 0", x.can(0, 1), 507);
        x = Due.island(2, 1, 0);
        x.law(0, 31);
        x.law(1, 52);
        DUE.is("nearer than less", x.can(0, 1), 338);
        // by PAIRS 1, 1 there come 6 of SORT 0, by 3, 2 there come 2: as few MEETINGS, and found later
        x = Due.island(2, 2, 0);
        TextsTest.feedAll(x, "0");
        x.text(0);
        x.law(1, 66);
        x.law(3, 50);
        x.law(2, 51);
        DUE.is("so few", x.can(0, 0), 2);
        DUE.is("one END", x.reach(6 * 169), 2);
        DUE.is("the other END", x.reach(2 * 169), 2);
        DUE.is("the least", x.can(0, 1), 2 * 169);
    }

    private static void growing() {
        GreenPath x = Due.island(1, 1, 10);
        x.law(1, 30);
        x.fence(5, 1);
        x.fence(2, 1);
        x.fence(4, 1);
        DUE.is("13 of it", x.reached(), 1);
        DUE.is("no ways", x.allWays(1), 0);
        x.be(2, 8);
        DUE.is("up to 12", x.reached(), 3);
        // by PAIRS 1, 1, 0: 1 * 2 * 3; by 1, 0, 1: 1 * 1 * 2; by 1, 0, 0: 1; by 1, 1, 1 there would be 13
        DUE.is("none beyond", x.allWays(3), 9);
        DUE.is("ways up to 12", x.ways(2, 3 * 169 + 13 + 8), 2);
        x = Due.island(0, 0, 12);
        x.law(5, 0);
        DUE.is("most ways", x.allWays(6), 66L * 66 * 66 * 66 * 66 * 66);
        DUE.is("most ways to one", x.ways(6, 12), 82653950016L);
    }

    private static void rests() {
        GreenPath x = new GreenPath();
        DUE.is("bars of none", x.bars(0, 3), Due.STATE);
        DUE.is("bars of 3 ahead of it", x.bars(3, 3), Due.BEYOND);
        DUE.is("bars by 6 ahead of it", x.bars(0, 6), Due.BEYOND);
        DUE.is("how many by 2", x.stays(2, -1), 2);
        DUE.is("first by 2", x.stays(2, 0), 7);
        DUE.is("no second by 2", x.stays(2, 1), Due.NONE);
        int[] by3 = {5, 7, 11, 13, 15, 19, 21, 26};
        DUE.is("how many by 3", x.stays(3, -1), 9);
        for (int i = 0; i < by3.length; i++) {
            DUE.is("by 3", x.stays(3, i), by3[i]);
        }
        DUE.is("no more by 3", x.stays(3, 8), Due.NONE);
        DUE.is("far by 3", x.stays(3, Integer.MAX_VALUE), Due.NONE);
        DUE.is("stays 1", x.stays(1, -1), Due.BEYOND);
        DUE.is("stays 6", x.stays(6, -1), Due.BEYOND);
        DUE.is("stays 0", x.stays(0, -1), Due.BEYOND);
        DUE.is("stays -2", x.stays(3, -2), Due.BEYOND);
        for (int pair = 0; pair < 6; pair++) {
            x.fence(pair, 1);
        }
        DUE.is("all FENCED", x.stays(5, -1), 125);
        DUE.is("all FENCED, last", x.stays(5, 123), 124);
        x.fence(0, 0);
        x.law(0, 20);
        DUE.is("EAT alone", x.stays(4, -1), 16);
        x.law(0, 31);
        DUE.is("SPLIT alone, as if there were enough", x.stays(4, 3), 16);
        x = Due.island(1, 2, 4);
        DUE.is("bars 0", x.bars(0, 3), 1);
        DUE.is("bars 1", x.bars(1, 3), 0);
        DUE.is("bars 2", x.bars(2, 3), 1);
        x = Due.island(2, 4, 1);
        DUE.is("bars by rests of 2, 4, 1", x.bars(0, 3) * 100 + x.bars(1, 3) * 10 + x.bars(2, 3), 11);
        x = Due.island(4, 1, 2);
        DUE.is("bars by rests of 4, 1, 2", x.bars(0, 3) * 100 + x.bars(1, 3) * 10 + x.bars(2, 3), 110);
        x = Due.island(3, 3, 3);
        DUE.is("bars none", x.bars(0, 3) + x.bars(1, 3) + x.bars(2, 3), 0);
        x = Due.island(0, 0, 5);
        DUE.is("bars what is", x.bars(2, 3), 0);
        DUE.is("bars else", x.bars(1, 3), 1);
        DUE.is("bars 6", x.bars(0, 6), Due.BEYOND);
        DUE.is("bars 1", x.bars(0, 1), Due.BEYOND);
        DUE.is("bars of -1", x.bars(-1, 3), Due.BEYOND);
    }

    private static void sureEnds() {
        GreenPath x = Due.island(2, 1, 0);
        DUE.is("the other one turns away", x.force(2), Due.NONE);
        x = Due.island(1, 1, 1);
        DUE.is("the first one chooses 0", x.force(0), 1);
        DUE.is("the first one chooses 1", x.force(1), 1);
        DUE.is("the first one chooses 2", x.force(2), 1);
        x = new GreenPath();
        DUE.is("nobody", x.force(0), Due.NONE);
        x.be(0, 2);
        x.be(1, 1);
        x.law(0, 50);
        x.law(1, 50);
        x.law(3, 51);
        // the first one can only pass to the other: 0 and 0 become 0, or 0 and 1 become 1; then what is left meets
        DUE.is("by two", x.force(1), 2);
        DUE.is("can by two", x.can(1, 0), 2);
        DUE.is("can't", x.force(2), Due.NONE);
        x.law(1, 20);
        x.law(0, 0);
        // 0 and 1 become 1: the other one must do so, too, as nothing else may
        DUE.is("must", x.force(1), 2);
        // with more of 0 the other one lets 0 and 0 meet while there are two of them, the first one eats each time
        x.be(0, 3);
        DUE.is("put off", x.force(1), 4);
        x.be(0, 6);
        DUE.is("put off to 10", x.force(1), 10);
        x.be(0, 7);
        DUE.is("put off to 12", x.force(1), Due.NONE);
    }

    private static void changedRules() {
        GreenPath x = Due.island(1, 1, 0);
        x.law(1, 60);
        DUE.is("way by GIVES 1", x.way(26, 0), 1);
        DUE.is("reach by GIVES 1", x.reach(26), 1);
        TextsTest.feedAll(x, "b+1");
        x.text(0);
        DUE.is("way by GIVES 2", x.way(2, 0), 1);
        DUE.is("way by GIVES 1 no more", x.way(26, 0), Due.NONE);
        x.image();
        TextsTest.feedAll(x, "0");
        x.text(0);
        DUE.is("can by GIVES 0", x.can(0, 1), 338);
        x.restore();
        DUE.is("force by GIVES 2 again", x.force(2), 1);
        DUE.is("ways by GIVES 2 again", x.ways(1, 2), 1);
        DUE.is("bars by GIVES 2 again", x.bars(2, 3), 0);
        x.be(0, 0);
        DUE.is("way from elsewhere", x.way(2, 0), Due.NONE);
        DUE.is("reached from elsewhere", x.reached(), 1);
        x.law(3, 20);
        x.be(1, 3);
        DUE.is("reached by another law", x.reached(), 3);
        x.fence(3, 1);
        DUE.is("reached by a fence", x.reached(), 1);
    }

    private static void twelve() {
        GreenPath x = Due.island(1, 1, 10);
        DUE.is("all 12", x.can(2, 1), 12);
        DUE.is("all 12 kept away", x.fences(2, 1), 2);
        DUE.is("all 12 forced", x.force(2), 1);
        x = Due.island(0, 0, 12);
        DUE.is("12 now", x.can(2, 0), 0);
        DUE.is("12 were", x.was(1, 0), 2);
        DUE.is("12 were, the least", x.was(1, 1), 12);
        DUE.is("12 was 6 ago", x.was(6, 1), 12);
        x.law(5, 31);
        DUE.is("12 were else", x.was(1, 0), 1);
        DUE.is("12 were else, the least", x.was(1, 1), 192);
    }

    private static void nobody() {
        GreenPath x = new GreenPath();
        DUE.is("reach", x.reach(0), 0);
        DUE.is("way", x.way(0, 0), Due.NONE);
        DUE.is("can", x.can(0, 0), Due.NONE);
        DUE.is("reached", x.reached(), 1);
        DUE.is("ways", x.ways(0, 0), 1);
        DUE.is("allWays 0", x.allWays(0), 1);
        DUE.is("allWays 1", x.allWays(1), 0);
        DUE.is("fences", x.fences(0, 0), 0);
        DUE.is("was 0", x.was(0, 0), 1);
        DUE.is("was 0 least", x.was(0, 1), 0);
        DUE.is("was 1", x.was(1, 0), 0);
    }

    private static void fencesThatAre() {
        GreenPath y = Due.island(2, 2, 0);
        y.law(0, 50);
        y.law(1, 52);
        y.law(3, 51);
        // the END of 0 comes by PAIR 1, or by PAIR 3: both must be FENCED
        DUE.is("two fences", y.fences(0, 0), 2);
        DUE.is("two fences, which", y.fences(0, 1), 2 + 8);
        y.fence(3, 1);
        DUE.is("one more", y.fences(0, 0), 1);
        DUE.is("one more, which", y.fences(0, 1), 2);
        y = Due.island(2, 1, 0);
        y.law(0, 51);
        y.law(3, 51);
        y.fence(2, 1);
        // 0 and 0 become 1, 1 and 1 become 0: one fence does, at either, if 0 and 1 may not become 2
        y.law(1, 20);
        DUE.is("either does", y.fences(0, 0), 1);
        DUE.is("the least does", y.fences(0, 1), 1);
        y = Due.island(3, 1, 0);
        y.law(1, 52);
        y.law(0, 50);
        // 0 and 1 become 0 whatever else: PAIR 0 alone is no good
        DUE.is("not the first", y.fences(0, 1), 2);
        GreenPath x = Due.island(2, 2, 0);
        x.law(0, 50);
        x.law(1, 50);
        x.law(3, 51);
        x.law(4, 50);
        // every END of 0 needs the last 1 to be gone by PAIR 1 or PAIR 3
        int many = x.fences(0, 0);
        int which = x.fences(0, 1);
        DUE.is("as many as bits", Integer.bitCount(which), many);
        for (int pair = 0; pair < 6; pair++) {
            if ((which >> pair & 1) == 1) {
                x.fence(pair, 1);
            }
        }
        DUE.is("kept away", x.can(0, 0), Due.NONE);
        DUE.is("none more", x.fences(0, 0), 0);
        DUE.is("none more which", x.fences(0, 1), 0);
    }

    /** Ends that are reached by a longer way, too, which other fences are wanted for. */
    private static void longWays() {
        longWay(new int[] {44, 16, 47, 46, 43, 2}, 2, 2, 1, 6);
        longWay(new int[] {57, 44, 68, 47, 25, 17}, 3, 0, 1, 16);
        longWay(new int[] {58, 62, 12, 50, 54, 65}, 0, 3, 2, 2);
        longWay(new int[] {53, 11, 47, 25, 24, 52}, 3, 2, 1, 5);
    }

    private static void longWay(int[] laws, int first, int second, int third, int want) {
        GreenPath x = Due.island(first, second, third);
        Model y = new Model();
        y.be(0, first);
        y.be(1, second);
        y.be(2, third);
        for (int pair = 0; pair < 6; pair++) {
            x.law(pair, laws[pair]);
            y.law(pair, laws[pair]);
        }
        DUE.is("the model's fences", y.fences(2, 1), want);
        DUE.is("fences of a longer way", x.fences(2, 1), want);
        DUE.is("so many", x.fences(2, 0), Integer.bitCount(want));
    }

    private static void wrongInputs() {
        GreenPath x = Due.island(1, 1, 1);
        int[] noStates = {-1, 2197, 2029, 13 * 12 + 1, 12 * 169 + 13, Integer.MIN_VALUE, Integer.MAX_VALUE};
        for (int state : noStates) {
            DUE.is("reach " + state, x.reach(state), Due.BEYOND);
            DUE.is("way " + state, x.way(state, 0), Due.BEYOND);
            DUE.is("ways " + state, x.ways(0, state), Due.BEYOND);
        }
        int[] states = {0, 12, 156, 2028, 144};
        for (int state : states) {
            DUE.is("reach " + state, x.reach(state), Due.NONE);
            DUE.is("ways " + state, x.ways(6, state), 0);
        }
        DUE.is("way -1", x.way(0, -1), Due.BEYOND);
        DUE.is("can of 3", x.can(3, 0), Due.BEYOND);
        DUE.is("can of -1", x.can(-1, 0), Due.BEYOND);
        DUE.is("can what 2", x.can(0, 2), Due.BEYOND);
        DUE.is("can what -1", x.can(0, -1), Due.BEYOND);
        DUE.is("ways 7", x.ways(7, 0), Due.BEYOND);
        DUE.is("ways -1", x.ways(-1, 0), Due.BEYOND);
        DUE.is("allWays 7", x.allWays(7), Due.BEYOND);
        DUE.is("allWays -1", x.allWays(-1), Due.BEYOND);
        DUE.is("fences of 3", x.fences(3, 0), Due.BEYOND);
        DUE.is("fences of -1", x.fences(-1, 0), Due.BEYOND);
        DUE.is("fences what 2", x.fences(0, 2), Due.BEYOND);
        DUE.is("fences what -1", x.fences(0, -1), Due.BEYOND);
        DUE.is("was 7", x.was(7, 0), Due.BEYOND);
        DUE.is("was -1", x.was(-1, 0), Due.BEYOND);
        DUE.is("was what 2", x.was(0, 2), Due.BEYOND);
        DUE.is("was what -1", x.was(0, -1), Due.BEYOND);
        DUE.is("force of 3", x.force(3), Due.BEYOND);
        DUE.is("force of -1", x.force(-1), Due.BEYOND);
        DUE.is("told all", x.told(1), 3 * noStates.length + 19);
    }
}
