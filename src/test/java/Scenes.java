/** Objects on which something of each sort stands, so that it can be seen whether a call left all as it was. */
final class Scenes {
    private Scenes() {
    }

    /** Brings a text to THE TAPE in as few calls as can be. */
    static void feed(GreenPath x, String text) {
        for (int from = 0; from < text.length(); from += 8) {
            int n = Math.min(8, text.length() - from);
            long word = 0;
            for (int i = n - 1; i >= 0; i--) {
                word = word << 8 | text.charAt(from + i);
            }
            x.feed(word, n);
        }
    }

    /** Makes a text the TEXT of a USE. */
    static int text(GreenPath x, int use, String text) {
        feed(x, text);
        return x.text(use);
    }

    /** All that there can be is there, the IMAGE has all of it otherwise, and each ERROR was told another time often. */
    static GreenPath rich() {
        GreenPath x = Due.island(2, 2, 3);
        int[] laws = {24, 35, 41, 52, 66, 3};
        for (int pair = 0; pair < 6; pair++) {
            x.law(pair, laws[pair]);
        }
        text(x, 0, "a+b*2+m");
        text(x, 1, "a*9+b*5+k+t");
        x.fence(2, 1);
        x.meet(1);
        feed(x, "7+");
        x.tell(x.count(0));
        x.seed(-5);
        x.image();
        x.law(3, 60);
        x.fence(2, 0);
        x.fence(0, 1);
        text(x, 0, "b+m");
        text(x, 0, "b+m");
        text(x, 1, "3+t");
        x.meet(5);
        x.seed(77);
        x.chance(2);
        feed(x, "5*");
        x.check();
        x.tell(x.count(0));
        x.tell(x.count(0));
        x.voice(4, 3, 5);
        sheets(x);
        errors(x);
        return x;
    }

    private static void sheets(GreenPath x) {
        x.sheet(0, 8, 3);
        x.put(0, 0, 1);
        x.put(0, 1, 4);
        x.put(0, 2, 9);
        x.sheet(1, 8, 2);
        x.put(1, 0, 2);
        x.put(1, 1, 5);
        x.sheet(2, 16, 2);
        x.put(2, 0, 3);
    }

    private static void errors(GreenPath x) {
        x.of(3);
        x.trace(-1);
        x.trace(-1);
        for (int i = 0; i < 3; i++) {
            x.meet(0);
        }
        for (int i = 0; i < 4; i++) {
            x.be(2, 12);
        }
        for (int i = 0; i < 5; i++) {
            x.as(0, 6);
        }
    }

    /** So rich, and with 12 beings. */
    static GreenPath crowded() {
        GreenPath x = rich();
        x.be(0, 0);
        x.be(1, 0);
        x.be(2, 3);
        x.be(1, 4);
        x.be(0, 5);
        return x;
    }

    /** So rich, and with no beings. */
    static GreenPath nobody() {
        GreenPath x = rich();
        x.be(0, 0);
        x.be(1, 0);
        x.be(2, 0);
        return x;
    }

    /** So rich, and with so many bytes on THE TAPE. */
    static GreenPath bytes(int many) {
        GreenPath x = rich();
        x.text(0);
        feed(x, "+".repeat(many));
        return x;
    }

    /** So rich, and 20 numbers wait. */
    static GreenPath allWait() {
        GreenPath x = rich();
        for (int i = 2; i < 20; i++) {
            x.tell(i);
        }
        return x;
    }

    /** Two beings of SORT 2 that have met so often. */
    static GreenPath met(int times) {
        GreenPath x = Due.island(0, 0, 2);
        for (int left = times; left > 0; left -= 60) {
            x.chance(Math.min(60, left));
        }
        return x;
    }
}
