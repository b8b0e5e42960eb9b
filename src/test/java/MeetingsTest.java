/** Promises 11 and 12: meet, chance; and what they change. */
public final class MeetingsTest {
    private static final Due DUE = new Due("MeetingsTest");

    public static void main(String[] args) {
        meetings();
        toldAnew();
        prices();
        chances();
        limits();
        DUE.end();
    }

    private static void meetings() {
        GreenPath x = Due.island(2, 2, 1);
        DUE.is("THIRD", x.meet(1), 169 + 13 + 3);
        DUE.is("alike as LAW", x.meet(5), 169 + 13 + 3);
        DUE.is("too few", x.meet(0), Due.STATE);
        DUE.is("MET", x.count(2), 2);
        x.law(5, 20);
        DUE.is("EAT", x.meet(5), 169 + 13 + 2);
        x.law(2, 40);
        DUE.is("COPY", x.meet(2), 13 + 3);
        x.law(4, 31);
        DUE.is("SPLIT", x.meet(4), 26 + 3);
        x.law(4, 52);
        DUE.is("JOIN", x.meet(4), 13 + 2 + 1);
        x.law(4, 65);
        DUE.is("TOLD", x.meet(4), 5);
        DUE.is("none there", x.meet(4), Due.STATE);
        x.fence(5, 1);
        DUE.is("FENCED", x.meet(5), Due.STATE);
        DUE.is("meet 6", x.meet(6), Due.BEYOND);
        DUE.is("meet -1", x.meet(-1), Due.BEYOND);
        DUE.is("MET then", x.count(2), 7);
        DUE.is("SPENT", x.count(3), 7);
        x = Due.island(6, 6, 0);
        x.law(1, 30);
        DUE.is("13 of it", x.meet(1), Due.STATE);
        x.be(0, 5);
        DUE.is("12 of it", x.meet(1), 169 * 6 + 13 * 6);
    }

    private static void toldAnew() {
        GreenPath x = Due.island(3, 3, 0);
        x.law(1, 60);
        DUE.is("GIVES 1", x.meet(1), 2 * 169 + 4 * 13);
        TextsTest.feedAll(x, "2");
        x.text(0);
        DUE.is("GIVES 2", x.meet(1), 169 + 3 * 13 + 2);
        DUE.is("law anew", x.law(1, 10), 60);
        DUE.is("KIND of THIRD", x.ofPair(1, 0), 1);
        DUE.is("law back", x.law(1, 60), 10);
    }

    private static void prices() {
        GreenPath x = Due.island(0, 5, 5);
        TextsTest.feedAll(x, "a*27+b*9+k*3+t");
        DUE.is("text", x.text(1), 1);
        x.law(4, 0);
        x.meet(4);
        DUE.is("SPENT a, b", x.count(3), 45);
        x.law(4, 60);
        x.meet(4);
        DUE.is("SPENT k, t", x.count(3), 45 + 45 + 18 + 1);
        x.meet(5);
        DUE.is("SPENT held", x.count(3), 45 + 45 + 18 + 1 + Math.min(99, 54 + 18 + 3 + 2));
    }

    private static void chances() {
        GreenPath x = new GreenPath();
        DUE.is("chance of none", x.chance(60), 0);
        x.be(1, 1);
        DUE.is("chance of one", x.chance(60), 13);
        DUE.is("nothing drawn", x.count(7), 1);
        DUE.is("nothing MET", x.count(2), 0);
        DUE.is("chance 0", x.chance(0), Due.BEYOND);
        DUE.is("chance -1", x.chance(-1), Due.BEYOND);
        DUE.is("chance 61", x.chance(61), Due.BEYOND);
        x.be(0, 1);
        DUE.is("chance of two", x.chance(1), 2);
        int z = (1 * 1103515245 + 12345) * 1103515245 + 12345;
        DUE.is("two draws", x.count(7), z);
        x.fence(5, 1);
        DUE.is("chance FENCED", x.chance(2), 2);
        DUE.is("MET", x.count(2), 1);
        z = (z * 1103515245 + 12345) * 1103515245 + 12345;
        DUE.is("drawn all the same", x.count(7), (z * 1103515245 + 12345) * 1103515245 + 12345);
        x = Due.island(1, 2, 1);
        x.seed(77);
        int one = 77 * 1103515245 + 12345;
        int other = one * 1103515245 + 12345;
        int[] sorts = {0, 1, 1, 2};
        int first = sorts[(one >>> 8) % 4];
        int place = (other >>> 8) % 3;
        int second = sorts[place < (one >>> 8) % 4 ? place : place + 1];
        int[] counts = {1, 2, 1};
        if (first != second) {
            counts[first]--;
            counts[second]--;
            counts[3 - first - second] += 2;
        }
        DUE.is("chance by hand", x.chance(1), counts[0] * 169 + counts[1] * 13 + counts[2]);
    }

    private static void limits() {
        GreenPath x = Due.island(0, 0, 2);
        TextsTest.feedAll(x, "99");
        x.text(1);
        for (int i = 0; i < 166; i++) {
            x.chance(60);
        }
        DUE.is("MET", x.count(2), 9960);
        DUE.is("SPENT held", x.count(3), 99999);
        DUE.is("above 9999", x.chance(40), Due.STATE);
        DUE.is("chance 61 there", x.chance(61), Due.BEYOND);
        DUE.is("MET stays", x.count(2), 9960);
        DUE.is("up to 9999", x.chance(38), 2);
        TextsTest.feedAll(x, "0-99");
        x.text(1);
        DUE.is("the last one", x.meet(5), 2);
        DUE.is("SPENT less", x.count(3), 99900);
        DUE.is("MET is 9999", x.meet(5), Due.STATE);
        DUE.is("chance there", x.chance(1), Due.STATE);
        DUE.is("meet 6 there", x.meet(6), Due.BEYOND);
        DUE.is("MAY all the same", x.ofPair(5, 3), 1);
        x.be(2, 0);
        DUE.is("chance of none there", x.chance(1), Due.STATE);
        x = Due.island(2, 0, 0);
        for (int i = 0; i < 166; i++) {
            x.chance(60);
        }
        DUE.is("one too many", x.chance(40), Due.STATE);
        DUE.is("all the way to 9999", x.chance(39), 338);
        DUE.is("MET all the way", x.count(2), 9999);
        x = Due.island(2, 0, 0);
        TextsTest.feedAll(x, "0-99");
        x.text(1);
        for (int i = 0; i < 20; i++) {
            x.chance(60);
        }
        DUE.is("SPENT held below", x.count(3), -99999);
    }
}
