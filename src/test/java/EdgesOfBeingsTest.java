/** The edges that the document names in part 1 of its Terms and in promises 1 to 7, sentence by sentence. */
public final class EdgesOfBeingsTest {
    private static final Due DUE = new Due("EdgesOfBeingsTest");
    private static final Refusals NOT = new Refusals(DUE);
    private static final int[] LESSER = {0, 0, 0, 1, 1, 2};
    private static final int[] GREATER = {0, 1, 2, 1, 2, 2};

    public static void main(String[] args) {
        sorts();
        counts();
        states();
        pairs();
        kinds();
        numbersOfLaws();
        lawsAtFirst();
        fencesAtFirst();
        howManyCome();
        lawAndThird();
        eatAndCopy();
        split();
        join();
        told();
        mayByFence();
        mayByBeings();
        mayByTwelve();
        takenAndThere();
        aNewObject();
        be();
        beBeyond();
        beFull();
        of();
        ofBeyond();
        law();
        lawBeyond();
        fence();
        fenceBeyond();
        ofPair();
        ofPairBeyond();
        as();
        asBeyond();
        asKind();
        DUE.end();
    }

    private static void sorts() {
        DUE.says("Terms", "SORTS 0, 1, 2.");
        GreenPath x = Due.island(3, 4, 5);
        DUE.is("of -1", x.of(-1), Due.BEYOND);
        DUE.is("of 0", x.of(0), 3);
        DUE.is("of 1", x.of(1), 4);
        DUE.is("of 2", x.of(2), 5);
        DUE.is("of 3", x.of(3), Due.BEYOND);
    }

    private static void counts() {
        DUE.says("Terms", "COUNTS: how many beings there are of each (0 at first), at most 12 together.");
        GreenPath x = new GreenPath();
        DUE.is("at first", x.of(0) + x.of(1) + x.of(2) + x.count(1), 0);
        int[][] most = {{12, 0, 0}, {0, 12, 0}, {0, 0, 12}, {4, 4, 4}, {1, 0, 11}};
        for (int[] counts : most) {
            x = Due.island(counts[0], counts[1], counts[2]);
            DUE.is("12 together", x.count(1), 12);
            for (int sort = 0; sort < 3; sort++) {
                DUE.is("of " + sort, x.of(sort), counts[sort]);
                DUE.is("no 13th", x.be(sort, counts[sort] + 1), counts[sort] == 12 ? Due.BEYOND : Due.FULL);
            }
        }
    }

    private static void states() {
        DUE.says("Terms", "A STATE is told as 169 times the first, 13 times the second, and the third COUNT");
        int[][] known = {{0, 0, 0, 0}, {0, 0, 1, 1}, {0, 1, 0, 13}, {1, 0, 0, 169}, {0, 0, 12, 12}, {0, 12, 0, 156},
            {12, 0, 0, 2028}, {4, 4, 4, 732}, {0, 1, 11, 24}, {11, 1, 0, 1872}, {1, 2, 9, 204}};
        for (int[] row : known) {
            DUE.is("STATE " + row[3], Due.island(row[0], row[1], row[2]).count(0), row[3]);
        }
    }

    /** The SORTS that come of a PAIR, as digits. */
    private static String comes(GreenPath x, int pair) {
        StringBuilder sorts = new StringBuilder();
        for (int what = 5; what <= 7; what++) {
            int sort = x.ofPair(pair, what);
            if (sort >= 0) {
                sorts.append(sort);
            }
        }
        return sorts.toString();
    }

    private static String comes(int pair, int km) {
        GreenPath x = new GreenPath();
        x.law(pair, km);
        return comes(x, pair);
    }

    private static void pairs() {
        DUE.says("Terms", "PAIRS 0 to 5: sorts 0 and 0, 0 and 1, 0 and 2, 1 and 1, 1 and 2, 2 and 2 "
            + "(the lesser first: a, then b).");
        String[] sorts = {"00", "01", "02", "11", "12", "22"};
        for (int pair = 0; pair < 6; pair++) {
            DUE.is("PAIR " + pair, comes(pair, 0), sorts[pair]);
        }
        GreenPath x = new GreenPath();
        DUE.is("PAIR -1", x.ofPair(-1, 5), Due.BEYOND);
        DUE.is("PAIR 6", x.ofPair(6, 5), Due.BEYOND);
    }

    private static void kinds() {
        DUE.says("Terms", "Each PAIR has a LAW of a KIND: 0 LAW; 1 THIRD, 2 EAT, 3 SPLIT under LAW; 4 COPY under THIRD; "
            + "5 JOIN under EAT; 6 TOLD under SPLIT;");
        String[] under = {"1000000", "1100000", "1010000", "1001000", "1100100", "1010010", "1001001"};
        for (int pair = 0; pair < 6; pair++) {
            GreenPath x = new GreenPath();
            for (int kind = 0; kind < 7; kind++) {
                x.law(pair, 10 * kind + 9);
                DUE.is("KIND", x.ofPair(pair, 0), kind);
                for (int other = 0; other < 7; other++) {
                    int want = under[kind].charAt(other) == '1' ? 9 : Due.KIND;
                    DUE.is(kind + " as " + other, x.as(pair, other), want);
                }
            }
        }
    }

    private static void numbersOfLaws() {
        DUE.says("Terms", "with a number m (0 to 9);");
        GreenPath x = new GreenPath();
        for (int m = 0; m <= 9; m++) {
            x.law(4, m);
            DUE.is("m", x.ofPair(4, 1), m);
            DUE.is("KIND", x.ofPair(4, 0), 0);
            x.law(4, 60 + m);
            DUE.is("m", x.ofPair(4, 1), m);
            DUE.is("KIND", x.ofPair(4, 0), 6);
        }
        x.law(4, 10);
        DUE.is("10 is no m", x.ofPair(4, 1), 0);
        DUE.is("-1 is no m", x.law(4, -1), Due.BEYOND);
    }

    private static void lawsAtFirst() {
        DUE.says("Terms", "at first THIRD with m 0, all of them.");
        GreenPath x = new GreenPath();
        for (int pair = 0; pair < 6; pair++) {
            DUE.is("KIND at first", x.ofPair(pair, 0), 1);
            DUE.is("m at first", x.ofPair(pair, 1), 0);
            DUE.is("km at first", x.law(pair, 69), 10);
        }
    }

    private static void fencesAtFirst() {
        DUE.says("Terms", "A PAIR may be FENCED (1), or not (0, at first).");
        GreenPath x = new GreenPath();
        for (int pair = 0; pair < 6; pair++) {
            DUE.is("at first", x.ofPair(pair, 2), 0);
            x.fence(pair, 1);
            DUE.is("FENCED", x.ofPair(pair, 2), 1);
        }
        x.fence(3, 0);
        for (int pair = 0; pair < 6; pair++) {
            DUE.is("all but one", x.ofPair(pair, 2), pair == 3 ? 0 : 1);
        }
    }

    private static void howManyCome() {
        DUE.says("Terms", "WHAT COMES of a and b (one, two or three beings):");
        int[] many = {2, 2, 1, 3, 2, 1, 2};
        for (int pair = 0; pair < 6; pair++) {
            for (int km = 0; km < 70; km++) {
                GreenPath x = new GreenPath();
                x.law(pair, km);
                int want = km >= 65 ? 3 : many[km / 10];
                DUE.is("how many by " + km, x.ofPair(pair, 4), want);
                DUE.is("so many by " + km, comes(x, pair).length(), want);
            }
        }
    }

    private static void lawAndThird() {
        DUE.says("Terms", "LAW: a and b. THIRD: if a and b are unlike: two of the third sort; else as LAW.");
        String[] laws = {"00", "01", "02", "11", "12", "22"};
        String[] thirds = {"00", "22", "11", "11", "00", "22"};
        for (int pair = 0; pair < 6; pair++) {
            for (int m = 0; m <= 9; m += 3) {
                DUE.is("LAW " + pair, comes(pair, m), laws[pair]);
                DUE.is("THIRD " + pair, comes(pair, 10 + m), thirds[pair]);
            }
        }
    }

    private static void eatAndCopy() {
        String[] eaten = {"0", "1", "2", "1", "2", "2"};
        String[] copies = {"00", "11", "22", "11", "22", "22"};
        for (int pair = 0; pair < 6; pair++) {
            for (int m = 0; m <= 9; m += 3) {
                DUE.says("Terms", "EAT: one of b.");
                DUE.is("EAT " + pair, comes(pair, 20 + m), eaten[pair]);
                DUE.says("Terms", "COPY: two of b, if a and b are unlike; else as THIRD.");
                DUE.is("COPY " + pair, comes(pair, 40 + m), copies[pair]);
            }
        }
    }

    private static void split() {
        DUE.says("Terms", "SPLIT: as LAW, and one of the sort that is the rest of m by 3.");
        String[] laws = {"00", "01", "02", "11", "12", "22"};
        String rests = "0120120120";
        for (int pair = 0; pair < 6; pair++) {
            for (int m = 0; m <= 9; m++) {
                DUE.is("SPLIT " + pair + " " + m, comes(pair, 30 + m), laws[pair] + rests.charAt(m));
            }
        }
    }

    private static void join() {
        DUE.says("Terms", "JOIN: as EAT, but of the sort that is the rest of a and b and m together by 3.");
        String[] rests = {"0120120120", "1201201201", "2012012012", "2012012012", "0120120120", "1201201201"};
        for (int pair = 0; pair < 6; pair++) {
            for (int m = 0; m <= 9; m++) {
                DUE.is("JOIN " + pair + " " + m, comes(pair, 50 + m), rests[pair].substring(m, m + 1));
            }
        }
    }

    private static void told() {
        DUE.says("Terms", "TOLD: two of the sort that GIVES (a TEXT) tells, and one more of the rest of m by 3, "
            + "if m is above 4.");
        String[] gives = {"0120120120", "1201201201", "2012012012", "2012012012", "0120120120", "1201201201"};
        String rests = "0120120120";
        for (int pair = 0; pair < 6; pair++) {
            for (int m = 0; m <= 9; m++) {
                String two = gives[pair].substring(m, m + 1).repeat(2);
                DUE.is("TOLD " + pair + " " + m, comes(pair, 60 + m), m > 4 ? two + rests.charAt(m) : two);
            }
        }
        GreenPath x = new GreenPath();
        Scenes.text(x, 0, "b*2+m");
        int[] kms = {64, 65};
        String[][] want = {{"11", "00", "22", "00", "22", "22"}, {"222", "112", "002", "112", "002", "002"}};
        for (int i = 0; i < 2; i++) {
            for (int pair = 0; pair < 6; pair++) {
                x.law(pair, kms[i]);
                DUE.is("TOLD by a TEXT " + pair, comes(x, pair), want[i][pair]);
            }
        }
        Scenes.text(x, 0, "0-1");
        DUE.is("TOLD by a TEXT below 0", comes(x, 5), "002");
    }

    private static final String MAY = "A MEETING of a PAIR MAY be, if it isn't FENCED, there are the two beings, "
        + "and no more than 12 come of it together.";

    private static void mayByFence() {
        DUE.says("Terms", "A MEETING of a PAIR MAY be, if it isn't FENCED, there are the two beings, "
            + "and no more than 12 come of it together.");
        for (int pair = 0; pair < 6; pair++) {
            GreenPath x = Due.island(2, 2, 2);
            for (int other = 0; other < 6; other++) {
                x.fence(other, other == pair ? 0 : 1);
            }
            for (int other = 0; other < 6; other++) {
                DUE.is("MAY, all but " + pair + " FENCED", x.ofPair(other, 3), other == pair ? 1 : 0);
            }
        }
    }

    private static void mayByBeings() {
        DUE.says("Terms", MAY);
        for (int first = 0; first <= 3; first++) {
            for (int second = 0; second <= 3; second++) {
                for (int third = 0; third <= 3; third++) {
                    int[] counts = {first, second, third};
                    GreenPath x = Due.island(first, second, third);
                    for (int pair = 0; pair < 6; pair++) {
                        boolean two = counts[LESSER[pair]] >= 1 && counts[GREATER[pair]] >= 1
                            && (LESSER[pair] != GREATER[pair] || counts[LESSER[pair]] >= 2);
                        DUE.is("MAY " + pair + " of " + x.count(0), x.ofPair(pair, 3), two ? 1 : 0);
                    }
                }
            }
        }
    }

    private static void mayByTwelve() {
        DUE.says("Terms", MAY);
        for (int pair = 0; pair < 6; pair++) {
            for (int all = 10; all <= 12; all++) {
                GreenPath x = Due.island(all == 10 ? 4 : 3, all == 12 ? 5 : 4, all - (all == 10 ? 8 : all == 11 ? 7 : 8));
                DUE.is("beings", x.count(1), all);
                for (int km = 0; km < 70; km += 4) {
                    x.law(pair, km);
                    int then = all - 2 + x.ofPair(pair, 4);
                    DUE.is("MAY " + pair + " by " + km + " to " + then, x.ofPair(pair, 3), then <= 12 ? 1 : 0);
                }
            }
        }
    }

    private static void takenAndThere() {
        DUE.says("Terms", "It takes the two away, and what comes of them is there.");
        int[][] unlike = {{2, 2, 2}, {1, 1, 4}, {1, 2, 2}, {2, 2, 3}, {1, 3, 2}, {2, 1, 2}, {3, 1, 3}};
        int[][] alike = {{2, 2, 2}, {2, 2, 2}, {2, 2, 1}, {2, 2, 3}, {2, 2, 2}, {3, 2, 0}, {4, 2, 1}};
        for (int kind = 0; kind < 7; kind++) {
            int[][] then = {unlike[kind], alike[kind]};
            for (int i = 0; i < 2; i++) {
                GreenPath x = Due.island(2, 2, 2);
                x.law(i == 0 ? 1 : 5, 10 * kind + 5);
                int want = Due.state(then[i][0], then[i][1], then[i][2]);
                DUE.is("meet by KIND " + kind, x.meet(i == 0 ? 1 : 5), want);
                for (int sort = 0; sort < 3; sort++) {
                    DUE.is("of " + sort + " then", x.of(sort), then[i][sort]);
                }
            }
        }
    }

    private static void aNewObject() {
        DUE.says("Promise 1", "All as at first; no beings.");
        for (int i = 0; i < 2; i++) {
            GreenPath x = new GreenPath();
            for (int what = 0; what <= 7; what++) {
                DUE.is("count " + what, x.count(what), what == 7 ? 1 : 0);
            }
            for (int k = 1; k <= 5; k++) {
                DUE.is("told " + k, x.told(k), 0);
            }
            for (int sheet = 0; sheet < 4; sheet++) {
                DUE.is("SHEET", x.judge(sheet), Due.NONE);
            }
            DUE.is("TRACE", x.trace(0), Due.NONE);
            DUE.is("IMAGE", x.restore(), Due.NONE);
            DUE.is("TEXT 0", x.gives(0, 2, 2, 1, 0), 2);
            DUE.is("TEXT 1", x.gives(1, 2, 2, 2, 2), 1);
            DUE.is("TAPE", x.text(0), -10);
            DUE.is("waiting", x.check(), 0);
            DUE.is("first IMAGE", x.image(), 1);
            // what another object holds must not be seen by the next one
            Scenes.rich();
        }
    }

    private static void be() {
        DUE.says("Promise 2", "COUNT of a SORT becomes v: what it was.");
        for (int sort = 0; sort < 3; sort++) {
            GreenPath x = new GreenPath();
            DUE.is("be 0", x.be(sort, 0), 0);
            DUE.is("be 1", x.be(sort, 1), 0);
            DUE.is("be 11", x.be(sort, 11), 1);
            DUE.is("be 12", x.be(sort, 12), 11);
            DUE.is("be 12 again", x.be(sort, 12), 12);
            DUE.is("be 0 again", x.be(sort, 0), 12);
            DUE.is("nobody", x.count(0), 0);
        }
    }

    private static void beBeyond() {
        DUE.says("Promise 2", "BEYOND: v 0 to 12.");
        for (int bad : Refusals.outside(0, 12)) {
            for (int sort = 0; sort < 3; sort++) {
                int of = sort;
                NOT.refused("be " + sort + " " + bad, Due.BEYOND, x -> x.be(of, bad));
            }
        }
        for (int bad : Refusals.outside(0, 2)) {
            NOT.refused("be " + bad + " 0", Due.BEYOND, x -> x.be(bad, 0));
            NOT.refused("be " + bad + " -1", Due.BEYOND, x -> x.be(bad, -1));
        }
        NOT.refused("be 3 12 ahead of FULL", Due.BEYOND, Scenes::crowded, x -> x.be(3, 12));
        NOT.refused("be 0 13 ahead of FULL", Due.BEYOND, Scenes::crowded, x -> x.be(0, 13));
    }

    private static void beFull() {
        DUE.says("Promise 2", "FULL: there would be more than 12 together.");
        for (int sort = 0; sort < 3; sort++) {
            int of = sort;
            for (int others = 1; others <= 12; others++) {
                GreenPath x = new GreenPath();
                x.be((sort + 1) % 3, others / 2);
                x.be((sort + 2) % 3, others - others / 2);
                DUE.is("more than 12", x.be(sort, 13 - others), Due.FULL);
                DUE.is("far more", x.be(sort, 12), others == 0 ? 0 : Due.FULL);
                DUE.is("12", x.be(sort, 12 - others), 0);
                DUE.is("12 again", x.be(sort, 12 - others), 12 - others);
                DUE.is("more than 12 again", x.be(sort, 13 - others), Due.FULL);
                DUE.is("one less", x.be(sort, Math.max(0, 11 - others)), 12 - others);
            }
            int one = Scenes.crowded().of(sort) + 1;
            NOT.refused("be one more " + sort, Due.FULL, Scenes::crowded, x -> x.be(of, one));
            NOT.refused("be 12 of " + sort, Due.FULL, Scenes::crowded, x -> x.be(of, 12));
        }
    }

    private static void of() {
        DUE.says("Promise 3", "Of a SORT: COUNT.");
        for (int v = 0; v <= 12; v++) {
            for (int sort = 0; sort < 3; sort++) {
                GreenPath x = new GreenPath();
                x.be(sort, v);
                DUE.is("of " + sort, x.of(sort), v);
                DUE.is("of the next", x.of((sort + 1) % 3), 0);
                DUE.is("of the last", x.of((sort + 2) % 3), 0);
            }
        }
    }

    private static void ofBeyond() {
        DUE.says("Promise 3", "BEYOND.");
        for (int bad : Refusals.outside(0, 2)) {
            NOT.refused("of " + bad, Due.BEYOND, x -> x.of(bad));
        }
    }

    private static void law() {
        DUE.says("Promise 4", "LAW of a PAIR becomes one of a KIND, with m (km: 10 times the KIND, and m): the km that it was.");
        for (int pair = 0; pair < 6; pair++) {
            GreenPath x = new GreenPath();
            int was = 10;
            for (int km = 0; km < 70; km++) {
                DUE.is("law " + km, x.law(pair, km), was);
                DUE.is("KIND of " + km, x.ofPair(pair, 0), km / 10);
                DUE.is("m of " + km, x.ofPair(pair, 1), km % 10);
                was = km;
            }
            for (int other = 0; other < 6; other++) {
                DUE.is("of another PAIR", x.law(other, 0), other == pair ? 69 : 10);
            }
        }
    }

    private static void lawBeyond() {
        DUE.says("Promise 4", "BEYOND.");
        for (int bad : Refusals.outside(0, 69)) {
            for (int pair = 0; pair < 6; pair += 5) {
                int of = pair;
                NOT.refused("law " + pair + " " + bad, Due.BEYOND, x -> x.law(of, bad));
            }
        }
        for (int bad : Refusals.outside(0, 5)) {
            NOT.refused("law " + bad + " 0", Due.BEYOND, x -> x.law(bad, 0));
            NOT.refused("law " + bad + " 70", Due.BEYOND, x -> x.law(bad, 70));
        }
    }

    private static void fence() {
        DUE.says("Promise 5", "A PAIR is FENCED (1), or not (0): what it was.");
        for (int pair = 0; pair < 6; pair++) {
            GreenPath x = new GreenPath();
            int[] rows = {0, 1, 1, 0, 0, 1};
            int was = 0;
            for (int v : rows) {
                DUE.is("fence " + v, x.fence(pair, v), was);
                was = v;
                for (int other = 0; other < 6; other++) {
                    DUE.is("FENCED " + other, x.ofPair(other, 2), other == pair ? v : 0);
                }
            }
        }
    }

    private static void fenceBeyond() {
        DUE.says("Promise 5", "BEYOND.");
        for (int bad : Refusals.outside(0, 1)) {
            NOT.refused("fence 0 " + bad, Due.BEYOND, x -> x.fence(0, bad));
            NOT.refused("fence 5 " + bad, Due.BEYOND, x -> x.fence(5, bad));
        }
        for (int bad : Refusals.outside(0, 5)) {
            NOT.refused("fence " + bad + " 1", Due.BEYOND, x -> x.fence(bad, 1));
            NOT.refused("fence " + bad + " 0", Due.BEYOND, x -> x.fence(bad, 0));
        }
    }

    private static void ofPair() {
        DUE.says("Promise 6", "Of a PAIR: 0 KIND, 1 m, 2 FENCED, 3 1 if it MAY meet, else 0, "
            + "4 how many beings come of it (FENCED or not), 5 to 7 their SORTS in order (-1: none).");
        GreenPath x = Due.island(1, 1, 1);
        int[][] rows = {{0, 24, 2, 4, 0, 0, 1, 0, -1, -1}, {1, 35, 3, 5, 0, 1, 3, 0, 1, 2}, {2, 17, 1, 7, 0, 1, 2, 1, 1, -1},
            {3, 69, 6, 9, 0, 0, 3, 2, 2, 0}, {4, 41, 4, 1, 0, 1, 2, 2, 2, -1}, {5, 58, 5, 8, 0, 0, 1, 0, -1, -1}};
        for (int[] row : rows) {
            x.law(row[0], row[1]);
            for (int what = 0; what <= 7; what++) {
                DUE.is("ofPair " + row[0] + " " + what, x.ofPair(row[0], what), row[what + 2]);
            }
            x.fence(row[0], 1);
            for (int what = 0; what <= 7; what++) {
                int want = what == 2 ? 1 : what == 3 ? 0 : row[what + 2];
                DUE.is("FENCED ofPair " + row[0] + " " + what, x.ofPair(row[0], what), want);
            }
        }
    }

    private static void ofPairBeyond() {
        DUE.says("Promise 6", "BEYOND.");
        for (int bad : Refusals.outside(0, 7)) {
            NOT.refused("ofPair 0 " + bad, Due.BEYOND, x -> x.ofPair(0, bad));
            NOT.refused("ofPair 5 " + bad, Due.BEYOND, x -> x.ofPair(5, bad));
        }
        for (int bad : Refusals.outside(0, 5)) {
            for (int what = -1; what <= 8; what += 3) {
                int of = what;
                NOT.refused("ofPair " + bad + " " + what, Due.BEYOND, x -> x.ofPair(bad, of));
            }
        }
    }

    private static void as() {
        DUE.says("Promise 7", "LAW of a PAIR as one of a KIND: m.");
        int[] above = {0, 0, 0, 0, 1, 2, 3};
        for (int km = 0; km < 70; km++) {
            for (int pair = 0; pair < 6; pair += 5) {
                GreenPath x = new GreenPath();
                x.law(pair, km);
                DUE.is("as its own KIND", x.as(pair, km / 10), km % 10);
                DUE.is("as the KIND above", x.as(pair, above[km / 10]), km % 10);
                DUE.is("as LAW", x.as(pair, 0), km % 10);
            }
        }
    }

    private static void asBeyond() {
        DUE.says("Promise 7", "BEYOND.");
        for (int bad : Refusals.outside(0, 6)) {
            NOT.refused("as 0 " + bad, Due.BEYOND, x -> x.as(0, bad));
            NOT.refused("as 5 " + bad, Due.BEYOND, x -> x.as(5, bad));
        }
        for (int bad : Refusals.outside(0, 5)) {
            NOT.refused("as " + bad + " 0", Due.BEYOND, x -> x.as(bad, 0));
            NOT.refused("as " + bad + " 6", Due.BEYOND, x -> x.as(bad, 6));
        }
    }

    private static void asKind() {
        DUE.says("Promise 7", "KIND: it isn't of that KIND, nor of one under it.");
        // of the rich scene: 0 EAT, 1 SPLIT, 2 COPY, 3 TOLD, 4 TOLD, 5 LAW
        String[] none = {"13456", "12456", "2356", "1245", "1245", "123456"};
        for (int pair = 0; pair < 6; pair++) {
            for (int i = 0; i < none[pair].length(); i++) {
                int of = pair;
                int kind = none[pair].charAt(i) - '0';
                NOT.refused("as " + pair + " " + kind, Due.KIND, x -> x.as(of, kind));
            }
        }
    }
}
