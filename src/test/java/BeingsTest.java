/** Promises 1 to 7: a new object, be, of, law, fence, ofPair, as. */
public final class BeingsTest {
    public static void main(String[] args) {
        Due due = new Due("BeingsTest");
        aNewObject(due);
        beAndOf(due);
        lawAndFence(due);
        whatComes(due);
        mayMeet(due);
        asKind(due);
        due.end();
    }

    private static void aNewObject(Due due) {
        GreenPath x = new GreenPath();
        for (int sort = 0; sort < 3; sort++) {
            due.is("new of", x.of(sort), 0);
        }
        for (int pair = 0; pair < 6; pair++) {
            due.is("new KIND", x.ofPair(pair, 0), 1);
            due.is("new m", x.ofPair(pair, 1), 0);
            due.is("new FENCED", x.ofPair(pair, 2), 0);
            due.is("new MAY", x.ofPair(pair, 3), 0);
        }
        for (int what = 0; what < 7; what++) {
            due.is("new count " + what, x.count(what), 0);
        }
        due.is("new z", x.count(7), 1);
        for (int k = 1; k <= 5; k++) {
            due.is("new told", x.told(k), 0);
        }
        for (int sheet = 0; sheet < 4; sheet++) {
            due.is("new sheet", x.judge(sheet), Due.NONE);
        }
        due.is("new image", x.restore(), Due.NONE);
        due.is("new GIVES", x.gives(0, 1, 1, 0, 0), 2);
        due.is("new PRICE", x.gives(1, 9, 9, 9, 9), 1);
    }

    private static void beAndOf(Due due) {
        GreenPath x = new GreenPath();
        due.is("be", x.be(0, 12), 0);
        due.is("be anew", x.be(0, 5), 12);
        due.is("be up to 12", x.be(1, 7), 0);
        due.is("be above 12", x.be(2, 1), Due.FULL);
        due.is("be of its own place", x.be(1, 8), Due.FULL);
        due.is("be the same", x.be(1, 7), 7);
        due.is("be 13", x.be(2, 13), Due.BEYOND);
        due.is("be -1", x.be(2, -1), Due.BEYOND);
        due.is("be of -1", x.be(-1, 0), Due.BEYOND);
        due.is("be of 3", x.be(3, 0), Due.BEYOND);
        due.is("be beyond ahead of full", x.be(3, 12), Due.BEYOND);
        due.is("of 0", x.of(0), 5);
        due.is("of 1", x.of(1), 7);
        due.is("of 2", x.of(2), 0);
        due.is("of 3", x.of(3), Due.BEYOND);
        due.is("of -1", x.of(-1), Due.BEYOND);
        due.is("STATE", x.count(0), 5 * 169 + 7 * 13);
    }

    private static void lawAndFence(Due due) {
        GreenPath x = new GreenPath();
        due.is("law", x.law(0, 69), 10);
        due.is("law anew", x.law(0, 0), 69);
        due.is("law back", x.law(0, 27), 0);
        due.is("KIND", x.ofPair(0, 0), 2);
        due.is("m", x.ofPair(0, 1), 7);
        due.is("law of 6", x.law(6, 0), Due.BEYOND);
        due.is("law of -1", x.law(-1, 0), Due.BEYOND);
        due.is("law 70", x.law(0, 70), Due.BEYOND);
        due.is("law -1", x.law(0, -1), Due.BEYOND);
        due.is("law stays", x.law(0, 27), 27);
        due.is("fence", x.fence(5, 1), 0);
        due.is("fence again", x.fence(5, 1), 1);
        due.is("FENCED", x.ofPair(5, 2), 1);
        due.is("not FENCED", x.ofPair(4, 2), 0);
        due.is("no fence", x.fence(5, 0), 1);
        due.is("no fence again", x.fence(5, 0), 0);
        due.is("fence 2", x.fence(5, 2), Due.BEYOND);
        due.is("fence -1", x.fence(5, -1), Due.BEYOND);
        due.is("fence of 6", x.fence(6, 1), Due.BEYOND);
        due.is("fence of -1", x.fence(-1, 1), Due.BEYOND);
        due.is("ofPair of 6", x.ofPair(6, 0), Due.BEYOND);
        due.is("ofPair of -1", x.ofPair(-1, 0), Due.BEYOND);
        due.is("ofPair what 8", x.ofPair(0, 8), Due.BEYOND);
        due.is("ofPair what -1", x.ofPair(0, -1), Due.BEYOND);
    }

    private static void whatComes(Due due) {
        comes(due, 2, 0, 0, 2, -1);
        comes(due, 3, 5, 1, 1, -1);
        comes(due, 1, 10, 2, 2, -1);
        comes(due, 2, 17, 1, 1, -1);
        comes(due, 4, 10, 0, 0, -1);
        comes(due, 5, 10, 2, 2, -1);
        comes(due, 1, 20, 1, -1, -1);
        comes(due, 3, 29, 1, -1, -1);
        comes(due, 2, 30, 0, 2, 0);
        comes(due, 2, 37, 0, 2, 1);
        comes(due, 0, 35, 0, 0, 2);
        comes(due, 1, 40, 1, 1, -1);
        comes(due, 4, 43, 2, 2, -1);
        comes(due, 0, 43, 0, 0, -1);
        comes(due, 4, 50, 0, -1, -1);
        comes(due, 5, 51, 2, -1, -1);
        comes(due, 0, 59, 0, -1, -1);
        comes(due, 1, 60, 1, 1, -1);
        comes(due, 1, 64, 2, 2, -1);
        comes(due, 1, 65, 0, 0, 2);
        comes(due, 5, 69, 1, 1, 0);
    }

    private static void comes(Due due, int pair, int km, int first, int second, int third) {
        GreenPath x = new GreenPath();
        x.law(pair, km);
        String call = "comes of " + pair + " by " + km;
        int many = third >= 0 ? 3 : second >= 0 ? 2 : 1;
        due.is(call, x.ofPair(pair, 4), many);
        due.is(call, x.ofPair(pair, 5), first);
        due.is(call, x.ofPair(pair, 6), second);
        due.is(call, x.ofPair(pair, 7), third);
        x.fence(pair, 1);
        due.is(call + " FENCED", x.ofPair(pair, 4), many);
        due.is(call + " FENCED", x.ofPair(pair, 5), first);
    }

    private static void mayMeet(Due due) {
        GreenPath x = new GreenPath();
        x.be(0, 1);
        x.be(1, 2);
        int[] may = {0, 1, 0, 1, 0, 0};
        for (int pair = 0; pair < 6; pair++) {
            due.is("MAY " + pair, x.ofPair(pair, 3), may[pair]);
        }
        x.fence(3, 1);
        due.is("MAY FENCED", x.ofPair(3, 3), 0);
        x.be(1, 11);
        due.is("MAY at 12", x.ofPair(1, 3), 1);
        x.law(1, 30);
        due.is("MAY to 13", x.ofPair(1, 3), 0);
        x.be(1, 10);
        due.is("MAY to 12", x.ofPair(1, 3), 1);
        x.law(1, 65);
        due.is("MAY to 12 by TOLD", x.ofPair(1, 3), 1);
        x.be(1, 11);
        due.is("MAY to 13 by TOLD", x.ofPair(1, 3), 0);
        x.law(1, 64);
        due.is("MAY at 12 by TOLD", x.ofPair(1, 3), 1);
    }

    private static void asKind(Due due) {
        int[] above = {-1, 0, 0, 0, 1, 2, 3};
        for (int kind = 0; kind < 7; kind++) {
            GreenPath x = new GreenPath();
            x.law(3, kind * 10 + 8);
            for (int other = 0; other < 7; other++) {
                boolean is = other == kind || other == above[kind] || other == 0;
                due.is("as " + kind + " " + other, x.as(3, other), is ? 8 : Due.KIND);
            }
            due.is("as 7", x.as(3, 7), Due.BEYOND);
            due.is("as -1", x.as(3, -1), Due.BEYOND);
            due.is("as of 6", x.as(6, 0), Due.BEYOND);
            due.is("as of -1", x.as(-1, 0), Due.BEYOND);
        }
    }
}
