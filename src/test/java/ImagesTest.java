/** Promises 31 to 36: image, restore, tell, check, count, told. */
public final class ImagesTest {
    private static final Due DUE = new Due("ImagesTest");

    public static void main(String[] args) {
        images();
        whatStays();
        told();
        checks();
        counts();
        DUE.end();
    }

    private static void images() {
        GreenPath x = new GreenPath();
        DUE.is("no IMAGE", x.restore(), Due.NONE);
        x.be(0, 3);
        x.be(1, 2);
        x.law(1, 61);
        x.fence(4, 1);
        TextsTest.feedAll(x, "2");
        x.text(0);
        TextsTest.feedAll(x, "a+b+4");
        x.text(1);
        x.meet(1);
        x.seed(9);
        x.tell(5);
        TextsTest.feedAll(x, "(m)");
        DUE.is("image", x.image(), 1);
        change(x);
        DUE.is("restore", x.restore(), 2 * 169 + 13 + 2);
        asKept(x);
        change(x);
        DUE.is("restore again", x.restore(), 2 * 169 + 13 + 2);
        asKept(x);
        DUE.is("the TAPE as kept", x.text(0), 1);
        DUE.is("gives (m)", x.gives(0, 0, 0, 1, 0), 1);
        x.restore();
        x.tell(7);
        x.be(0, 3);
        x.be(1, 2);
        x.be(2, 0);
        DUE.is("waiting as kept", x.check(), 1);
        x.restore();
        x.check();
        x.tell(169 + 4);
        x.image();
        x.check();
        x.tell(1);
        x.restore();
        DUE.is("waiting as kept anew", x.check(), 0);
        x.be(0, 0);
        DUE.is("image in place", x.image(), 3);
        x.be(0, 4);
        DUE.is("restore the second", x.restore(), 13 + 2);
        DUE.is("image", x.image(), 4);
    }

    private static void change(GreenPath x) {
        x.be(0, 0);
        x.be(2, 7);
        x.law(1, 20);
        x.law(0, 33);
        x.law(5, 44);
        x.fence(4, 0);
        x.fence(0, 1);
        x.check();
        x.tell(1);
        x.tell(2);
        x.text(0);
        TextsTest.feedAll(x, "m");
        x.text(0);
        TextsTest.feedAll(x, "77");
        x.text(1);
        TextsTest.feedAll(x, "abc");
        x.chance(9);
        x.be(1, 5);
        x.reached();
    }

    private static void asKept(GreenPath x) {
        DUE.is("COUNTS", x.of(0) * 100 + x.of(1) * 10 + x.of(2), 212);
        DUE.is("KIND", x.ofPair(1, 0), 6);
        DUE.is("m", x.ofPair(1, 1), 1);
        DUE.is("comes", x.ofPair(1, 5), 2);
        DUE.is("KINDS", x.ofPair(0, 0) * 10 + x.ofPair(5, 0), 11);
        DUE.is("FENCED", x.ofPair(4, 2), 1);
        DUE.is("not FENCED", x.ofPair(0, 2), 0);
        DUE.is("MET", x.count(2), 1);
        DUE.is("SPENT", x.count(3), 5);
        DUE.is("bytes", x.count(4), 3);
        DUE.is("wait", x.count(5), 1);
        DUE.is("z", x.count(7), 9);
        DUE.is("GIVES", x.gives(0, 0, 0, 0, 0), 2);
        DUE.is("PRICE", x.gives(1, 1, 1, 1, 1), 6);
        DUE.is("reach", x.reach(169 + 4), 1);
    }

    private static void whatStays() {
        GreenPath x = new GreenPath();
        x.sheet(0, 8, 3);
        x.voice(0, 3, 0);
        x.image();
        x.sheet(0, 8, 0);
        x.sheet(1, 16, 1);
        x.voice(0, 0, 0);
        x.be(3, 0);
        x.restore();
        DUE.is("SHEET 0 stays", x.judge(0), 0);
        DUE.is("SHEET 1 stays", x.put(1, 0, 1), 1);
        DUE.is("the TRACE stays", x.count(6), 1);
        DUE.is("told stays", x.told(1), 1);
        DUE.is("how often stays", x.image(), 2);
    }

    private static void told() {
        GreenPath x = new GreenPath();
        DUE.is("told 0", x.told(0), Due.BEYOND);
        DUE.is("told 6", x.told(6), Due.BEYOND);
        DUE.is("told -1", x.told(-1), Due.BEYOND);
        DUE.is("told 1", x.told(1), 3);
        x.allWays(7);
        x.ways(0, -1);
        DUE.is("longs too", x.told(1), 5);
        x.restore();
        x.reach(5);
        DUE.is("told 2", x.told(2), 2);
        x.meet(0);
        x.bars(0, 2);
        DUE.is("told 3", x.told(3), 2);
        x.be(0, 12);
        x.be(1, 1);
        DUE.is("told 4", x.told(4), 1);
        x.as(0, 2);
        DUE.is("told 5", x.told(5), 1);
        x.text(0);
        DUE.is("a FAULT is no ERROR", x.told(1) + x.told(2) + x.told(3) + x.told(4) + x.told(5), 11);
    }

    private static void checks() {
        GreenPath x = new GreenPath();
        DUE.is("none wait", x.check(), 0);
        for (int i = 1; i <= 20; i++) {
            DUE.is("tell", x.tell(i), i);
        }
        DUE.is("20 wait", x.tell(0), Due.FULL);
        DUE.is("wait", x.count(5), 20);
        DUE.is("check", x.check(), 1);
        DUE.is("none wait then", x.count(5), 0);
        x.be(0, 2);
        x.be(1, 2);
        x.tell(169 + 13 + 2);
        x.tell(4);
        x.tell(4);
        DUE.is("all come", x.check(), 0);
        DUE.is("nothing changes", x.count(0), 364);
        x.tell(169 + 13 + 2);
        x.tell(4);
        x.tell(364);
        x.tell(4);
        DUE.is("the third doesn't", x.check(), 3);
        x.tell(364);
        DUE.is("as LAW", x.check(), 0);
        x.fence(3, 1);
        x.tell(364);
        DUE.is("by PAIR 0", x.check(), 0);
        x.fence(0, 1);
        x.tell(364);
        DUE.is("FENCED", x.check(), 1);
        x.fence(1, 1);
        x.tell(-1);
        DUE.is("no STATE", x.check(), 1);
        x.tell(Integer.MIN_VALUE);
        DUE.is("far below", x.check(), 1);
    }

    private static void counts() {
        GreenPath x = new GreenPath();
        x.be(0, 1);
        x.be(1, 2);
        x.be(2, 3);
        DUE.is("STATE", x.count(0), 169 + 26 + 3);
        DUE.is("beings", x.count(1), 6);
        x.meet(1);
        DUE.is("MET", x.count(2), 1);
        DUE.is("SPENT", x.count(3), 1);
        x.feed(0, 5);
        DUE.is("bytes", x.count(4), 5);
        x.tell(0);
        DUE.is("wait", x.count(5), 1);
        x.voice(0, 3, 0);
        DUE.is("BODIES", x.count(6), 6);
        x.seed(-7);
        DUE.is("z", x.count(7), -7);
        DUE.is("count 8", x.count(8), Due.BEYOND);
        DUE.is("count -1", x.count(-1), Due.BEYOND);
    }
}
