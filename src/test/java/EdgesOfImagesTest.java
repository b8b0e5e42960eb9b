/** The edges of images and of what is told, as the Terms and promises 31 to 36 name them, sentence by sentence. */
public final class EdgesOfImagesTest {
    private static final Due DUE = new Due("EdgesOfImagesTest");
    private static final Refusals NOT = new Refusals(DUE);
    private static final int MIN = Integer.MIN_VALUE;
    private static final int MAX = Integer.MAX_VALUE;
    private static final int[] FAR = {-1, -2, 2029, 2197, 25, 65536 + 2, MIN, MIN + 2, MAX, -1000000001};

    public static void main(String[] args) {
        lifetime();
        errors();
        order();
        changesNothing();
        image();
        imageKeeps();
        imageInPlace();
        restore();
        restoreNone();
        tell();
        tellFull();
        check();
        checkPlaces();
        count();
        countBeyond();
        told();
        toldBeyond();
        DUE.end();
    }

    private static void lifetime() {
        DUE.says("What it is", "An object is used for at most 512 calls after it has been made;");
        GreenPath x = new GreenPath();
        for (int i = 0; i < 511; i++) {
            x.be(0, 13);
        }
        DUE.is("the 512th call", x.told(1), 511);
        x = new GreenPath();
        for (int i = 0; i < 511; i++) {
            x.image();
        }
        DUE.is("the 512th image", x.image(), 512);
    }

    private static void errors() {
        DUE.says("Terms", "ERRORS are answers below -1000000000: LOW is -1000000000; LOW - 1 BEYOND, LOW - 2 NONE, "
            + "LOW - 3 STATE, LOW - 4 FULL, LOW - 5 KIND (in longs, too).");
        GreenPath x = Due.island(6, 6, 0);
        DUE.is("BEYOND", x.of(3), -1000000001L);
        DUE.is("NONE", x.trace(0), -1000000002L);
        DUE.is("STATE", x.meet(5), -1000000003L);
        DUE.is("FULL", x.be(2, 1), -1000000004L);
        DUE.is("KIND", x.as(0, 2), -1000000005L);
        DUE.is("BEYOND in longs", x.ways(7, 0), -1000000001L);
        DUE.is("BEYOND in longs", x.allWays(-1), -1000000001L);
        for (int k = 1; k <= 5; k++) {
            DUE.is("told " + k, x.told(k), k == 1 ? 3 : 1);
        }
    }

    private static void order() {
        DUE.says("Terms", "Each act tells its ERRORS in the order in which they are asked;");
        GreenPath x = Scenes.crowded();
        DUE.is("be", x.be(3, 13), Due.BEYOND);
        DUE.is("be v", x.be(0, 13), Due.BEYOND);
        DUE.is("as", x.as(0, 7), Due.BEYOND);
        DUE.is("feed", Scenes.bytes(50).feed(0, 9), Due.BEYOND);
        DUE.is("meet", new GreenPath().meet(6), Due.BEYOND);
        DUE.is("chance", Scenes.met(9999).chance(61), Due.BEYOND);
        DUE.is("way", x.way(0, -1), Due.BEYOND);
        DUE.is("can", new GreenPath().can(0, 2), Due.BEYOND);
        DUE.is("stays", x.stays(6, MAX), Due.BEYOND);
        DUE.is("bars", new GreenPath().bars(0, 6), Due.BEYOND);
        DUE.is("fences", Due.island(1, 0, 0).fences(0, 2), Due.BEYOND);
        DUE.is("was", new GreenPath().was(1, 2), Due.BEYOND);
        DUE.is("sheet bits", x.sheet(0, 7, -1), Due.BEYOND);
        DUE.is("sheet n", x.sheet(0, 8, -1), Due.STATE);
        DUE.is("put SHEET", x.put(4, -1, 0), Due.BEYOND);
        DUE.is("put missing", x.put(3, -1, 0), Due.NONE);
        DUE.is("move SHEET", x.move(3, -1, 4, 0, 0), Due.BEYOND);
        DUE.is("move missing", x.move(3, -1, 0, 0, 0), Due.NONE);
        DUE.is("move unlike", x.move(0, -1, 2, 0, 0), Due.KIND);
        DUE.is("move nowhere", x.move(0, -1, 1, 0, 0), Due.BEYOND);
    }

    private static void changesNothing() {
        DUE.says("Terms", "one that answers an ERROR changes nothing but what told() tells.");
        NOT.refused("BEYOND", Due.BEYOND, x -> x.law(0, 70));
        NOT.refused("NONE", Due.NONE, x -> x.trace(40));
        NOT.refused("STATE", Due.STATE, x -> x.meet(0));
        NOT.refused("FULL", Due.FULL, x -> x.be(2, 12));
        NOT.refused("KIND", Due.KIND, x -> x.as(0, 6));
        NOT.refused("BEYOND in longs", Due.BEYOND, x -> x.ways(-1, 0));
    }

    private static void image() {
        DUE.says("Promise 31", "All (but SHEETS, THE TRACE, what told() tells, and how often this was done) is kept as an IMAGE, "
            + "in place of one ahead: how often that was done.");
        GreenPath x = Scenes.rich();
        DUE.is("image", x.image(), 2);
        x.sheet(0, 16, 1);
        x.sheet(3, 8, 2);
        x.voice(0, 0, 0);
        x.of(3);
        x.restore();
        DUE.is("SHEET 0", x.move(0, 0, 2, 0, 1), 1);
        DUE.is("SHEET 3", x.put(3, 1, 0), 1);
        DUE.is("THE TRACE", x.count(6), 2);
        DUE.is("its BODY", x.trace(0), 30);
        DUE.is("told", x.told(1), 2);
        DUE.is("how often", x.image(), 3);
        x.restore();
        x.restore();
        DUE.is("how often behind restores", x.image(), 4);
        for (int i = 5; i <= 300; i++) {
            DUE.is("image " + i, x.image(), i);
        }
    }

    /** Each single part, as it is kept while it alone is changed. */
    private static void imageKeeps() {
        DUE.says("Promise 32", "All is as the IMAGE has it, which stays: the STATE.");
        for (int part = 0; part < PARTS; part++) {
            for (int look = 0; look < Look.LOOKS; look++) {
                GreenPath x = Scenes.rich();
                x.image();
                changePart(x, part);
                x.restore();
                GreenPath y = Scenes.rich();
                y.image();
                DUE.is("part " + part + " as kept", Look.at(x, look).toString(), Look.at(y, look).toString());
            }
        }
    }

    private static final int PARTS = 14;

    private static void changePart(GreenPath x, int part) {
        switch (part) {
            case 0: x.be(0, 0); break;
            case 1: x.be(1, 3); break;
            case 2: x.be(2, 0); break;
            case 3: x.law(0, 69); x.law(5, 11); break;
            case 4: x.fence(0, 0); break;
            case 5: x.fence(5, 1); break;
            case 6: x.feed('7', 1); break;
            case 7: x.text(0); break;
            case 8: x.text(0); Scenes.text(x, 0, "1"); break;
            case 9: x.text(0); Scenes.text(x, 1, "9"); break;
            case 10: x.meet(5); break;
            case 11: x.seed(MIN); break;
            case 12: x.tell(5); break;
            default: x.check(); x.tell(0); x.tell(0); break;
        }
    }

    private static void imageInPlace() {
        DUE.says("Promise 31", "in place of one ahead: how often that was done.");
        GreenPath x = new GreenPath();
        DUE.is("the first", x.image(), 1);
        x.be(0, 1);
        DUE.is("the second", x.image(), 2);
        x.be(0, 2);
        DUE.is("the second is kept", x.restore(), 169);
        x.be(0, 3);
        DUE.is("the third", x.image(), 3);
        x.be(0, 0);
        DUE.is("the third is kept", x.restore(), 507);
        Scenes.feed(x, "abc");
        x.tell(4);
        x.image();
        x.text(0);
        x.check();
        x.restore();
        DUE.is("bytes", x.count(4), 3);
        DUE.is("waiting", x.count(5), 1);
        x.text(0);
        x.check();
        x.image();
        Scenes.feed(x, "abcd");
        x.tell(4);
        x.restore();
        DUE.is("no bytes", x.count(4), 0);
        DUE.is("none waiting", x.count(5), 0);
    }

    private static void restore() {
        DUE.says("Promise 32", "All is as the IMAGE has it, which stays: the STATE.");
        GreenPath x = new GreenPath();
        x.image();
        DUE.is("of nobody", x.restore(), 0);
        x.be(0, 12);
        x.image();
        for (int i = 0; i < 5; i++) {
            x.be(0, i);
            DUE.is("the greatest STATE", x.restore(), 2028);
            DUE.is("COUNT", x.of(0), 12);
        }
        x = Scenes.bytes(50);
        x.image();
        x.text(0);
        x.restore();
        DUE.is("50 bytes", x.count(4), 50);
        DUE.is("no 51st", x.feed('a', 1), Due.FULL);
        x = Scenes.allWait();
        x.image();
        x.check();
        x.restore();
        DUE.is("20 wait", x.count(5), 20);
        DUE.is("no 21st", x.tell(0), Due.FULL);
        x = Scenes.met(9999);
        x.image();
        x.restore();
        DUE.is("MET", x.count(2), 9999);
        DUE.is("no more", x.meet(5), Due.STATE);
        x = Due.island(0, 0, 2);
        x.image();
        x.meet(5);
        x.restore();
        DUE.is("MET 0", x.count(2), 0);
        DUE.is("SPENT 0", x.count(3), 0);
    }

    private static void restoreNone() {
        DUE.says("Promise 32", "NONE: there is none.");
        NOT.refused("restore", Due.NONE, GreenPath::new, GreenPath::restore);
        NOT.refused("restore of 12", Due.NONE, () -> Due.island(4, 4, 4), GreenPath::restore);
        GreenPath x = new GreenPath();
        x.restore();
        DUE.is("then there is one", x.image(), 1);
        DUE.is("restore it", x.restore(), 0);
    }

    private static void tell() {
        DUE.says("Promise 33", "One more number waits: how many.");
        GreenPath x = new GreenPath();
        for (int i = 0; i < 20; i++) {
            DUE.is("tell", x.tell(FAR[i % FAR.length]), i + 1);
            DUE.is("wait", x.count(5), i + 1);
        }
        x.check();
        DUE.is("anew", x.tell(MIN), 1);
        DUE.is("no ERROR", x.told(1) + x.told(2) + x.told(3) + x.told(4) + x.told(5), 0);
    }

    private static void tellFull() {
        DUE.says("Promise 33", "FULL: 20 wait.");
        int[] any = {0, 1, -1, MIN, MAX};
        for (int v : any) {
            NOT.refused("tell " + v, Due.FULL, Scenes::allWait, y -> y.tell(v));
        }
        GreenPath x = Due.island(2, 0, 0);
        for (int i = 0; i < 19; i++) {
            x.tell(338);
        }
        DUE.is("19 wait", x.count(5), 19);
        DUE.is("the 20th", x.tell(338), 20);
        DUE.is("the 21st", x.tell(-1), Due.FULL);
        DUE.is("it isn't there", x.check(), 0);
        DUE.is("now there is room", x.tell(338), 1);
    }

    private static void check() {
        DUE.says("Promise 34", "The numbers that wait (none do then) are STATES, each of which comes of that ahead of it "
            + "(the first: of now) by one MEETING that MAY be: 0;");
        GreenPath x = new GreenPath();
        DUE.is("none wait", x.check(), 0);
        x = Due.island(2, 2, 0);
        int[] row = {Due.state(1, 1, 2), Due.state(0, 0, 4), Due.state(0, 0, 4)};
        for (int state : row) {
            x.tell(state);
        }
        DUE.is("all come", x.check(), 0);
        DUE.is("none wait then", x.count(5), 0);
        DUE.is("nothing becomes", x.count(0), 364);
        DUE.is("nothing MET", x.count(2) + x.count(3), 0);
        x.tell(row[1]);
        DUE.is("not at once", x.check(), 1);
        DUE.is("none wait then either", x.count(5), 0);
        x = Due.island(12, 0, 0);
        for (int i = 0; i < 20; i++) {
            x.tell(2028);
        }
        DUE.is("20 of the greatest STATE", x.check(), 0);
        x = Due.island(1, 1, 10);
        x.tell(Due.state(0, 0, 12));
        DUE.is("12 come", x.check(), 0);
        x.law(1, 30);
        for (int pair = 2; pair < 6; pair++) {
            x.fence(pair, 1);
        }
        x.tell(Due.state(2, 1, 10));
        DUE.is("13 don't", x.check(), 1);
        x.be(2, 9);
        x.tell(Due.state(2, 1, 9));
        DUE.is("12 do", x.check(), 0);
        x = Scenes.met(9999);
        x.tell(2);
        DUE.is("MET is 9999, yet it MAY be", x.check(), 0);
        x.fence(5, 1);
        x.tell(2);
        DUE.is("FENCED", x.check(), 1);
    }

    private static void checkPlaces() {
        DUE.says("Promise 34", "else 1 and the place (from 0) of the first that doesn't.");
        for (int place = 0; place < 20; place++) {
            for (int bad : FAR) {
                GreenPath x = Due.island(0, 0, 2);
                for (int i = 0; i < 20; i++) {
                    x.tell(i == place ? bad : 2);
                }
                DUE.is("check of " + bad + " at " + place, x.check(), 1 + place);
                DUE.is("none wait", x.count(5), 0);
            }
        }
        GreenPath x = Due.island(1, 1, 0);
        x.tell(182);
        DUE.is("now is no MEETING", x.check(), 1);
        x.tell(2);
        x.tell(182);
        x.tell(182);
        DUE.is("the first of two", x.check(), 2);
        x = new GreenPath();
        for (int bad : FAR) {
            x.tell(bad);
            DUE.is("of nobody " + bad, x.check(), 1);
        }
        x.tell(0);
        DUE.is("of nobody 0", x.check(), 1);
        DUE.is("no ERROR", x.told(1) + x.told(2) + x.told(3) + x.told(4) + x.told(5), 0);
    }

    private static void count() {
        DUE.says("Promise 35", "0 the STATE, 1 beings, 2 MET, 3 SPENT, 4 bytes of THE TAPE, 5 numbers that wait, "
            + "6 BODIES in THE TRACE, 7 z (any number).");
        int[] rich = {525, 9, 4, 23, 2, 2, 9, 1851348041};
        int[] none = {0, 0, 0, 0, 0, 0, 0, 1};
        for (int what = 0; what <= 7; what++) {
            DUE.is("count " + what, Scenes.rich().count(what), rich[what]);
            DUE.is("count " + what, new GreenPath().count(what), none[what]);
        }
        DUE.is("12 beings", Scenes.crowded().count(1), 12);
        DUE.is("MET 9999", Scenes.met(9999).count(2), 9999);
        DUE.is("50 bytes", Scenes.bytes(50).count(4), 50);
        DUE.is("20 wait", Scenes.allWait().count(5), 20);
        GreenPath x = new GreenPath();
        for (int k = 1; k <= 5; k++) {
            x.seed(-1000000000 - k);
            DUE.is("z like an ERROR", x.count(7), -1000000000 - k);
        }
        for (int k = 1; k <= 5; k++) {
            DUE.is("is none", x.told(k), 0);
        }
    }

    private static void countBeyond() {
        DUE.says("Promise 35", "BEYOND.");
        for (int bad : Refusals.outside(0, 7)) {
            NOT.refused("count " + bad, Due.BEYOND, y -> y.count(bad));
        }
    }

    private static void told() {
        DUE.says("Promise 36", "How many acts have answered an ERROR LOW - k (k 1 .. 5);");
        GreenPath x = Scenes.rich();
        for (int k = 1; k <= 5; k++) {
            DUE.is("told " + k, x.told(k), k);
        }
        for (int k = 1; k <= 5; k++) {
            DUE.is("told is no ERROR", x.told(k), k);
        }
        x.trace(-1);
        DUE.is("one more", x.told(2), 3);
        DUE.is("of NONE alone", x.told(1), 1);
        x.image();
        x.trace(-1);
        x.restore();
        DUE.is("restore leaves it", x.told(2), 4);
    }

    private static void toldBeyond() {
        DUE.says("Promise 36", "BEYOND: another k (counted, too).");
        for (int bad : Refusals.outside(1, 5)) {
            NOT.refused("told " + bad, Due.BEYOND, y -> y.told(bad));
        }
        GreenPath x = new GreenPath();
        x.told(0);
        DUE.is("counted", x.told(1), 1);
        x.told(6);
        DUE.is("counted", x.told(1), 2);
        x.told(MIN);
        x.told(MAX);
        DUE.is("counted", x.told(1), 4);
    }
}
