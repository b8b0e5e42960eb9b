/** Promises 27 to 30: sheet, put, move, judge. */
public final class SheetsTest {
    private static final Due DUE = new Due("SheetsTest");

    public static void main(String[] args) {
        sheets();
        puts();
        moves();
        judges();
        DUE.end();
    }

    private static void sheets() {
        GreenPath x = new GreenPath();
        int[] wide = {8, 16, 32};
        for (int bits : wide) {
            DUE.is("sheet", x.sheet(0, bits, 40), 1);
            DUE.is("sheet of none", x.sheet(1, bits, 0), 1);
            DUE.is("none to judge", x.judge(1), 0);
            DUE.is("sheet 41", x.sheet(0, bits, 41), Due.BEYOND);
            DUE.is("sheet -1", x.sheet(0, bits, -1), Due.STATE);
        }
        DUE.is("told", x.told(3), 3);
        DUE.is("sheet 4", x.sheet(4, 8, -1), Due.BEYOND);
        DUE.is("sheet -1", x.sheet(-1, 8, 0), Due.BEYOND);
        DUE.is("bits 7", x.sheet(0, 7, -1), Due.BEYOND);
        DUE.is("bits 24", x.sheet(0, 24, 1), Due.BEYOND);
        DUE.is("bits 64", x.sheet(0, 64, 1), Due.BEYOND);
        DUE.is("bits -8", x.sheet(0, -8, 1), Due.BEYOND);
        DUE.is("still there", x.put(0, 39, 0), 1);
        DUE.is("missing", x.sheet(0, 0, -5), 1);
        DUE.is("missing, whatever n", x.sheet(0, 0, 1000), 1);
        DUE.is("missing to put", x.put(0, 0, 0), Due.NONE);
        x.be(0, 2);
        x.sheet(2, 8, 2);
        x.put(2, 1, 5);
        DUE.is("a 5", x.judge(2), 1);
        x.sheet(2, 8, 2);
        DUE.is("all 0 anew", x.judge(2), 2);
    }

    private static void puts() {
        GreenPath x = new GreenPath();
        x.be(1, 2);
        DUE.is("put 4", x.put(4, 0, 0), Due.BEYOND);
        DUE.is("put -1", x.put(-1, 0, 0), Due.BEYOND);
        DUE.is("put missing", x.put(3, -1, 0), Due.NONE);
        x.sheet(3, 8, 1);
        DUE.is("put at -1", x.put(3, -1, 0), Due.BEYOND);
        DUE.is("put at 1", x.put(3, 1, 0), Due.BEYOND);
        DUE.is("put at 0", x.put(3, 0, 256 + 3), 1);
        DUE.is("lowest 8", x.judge(3), 1);
        x.put(3, 0, 128 + 3);
        DUE.is("all of the 8", x.judge(3), 0);
        x.sheet(3, 16, 1);
        x.put(3, 0, 65536 + 3);
        DUE.is("lowest 16", x.judge(3), 1);
        x.put(3, 0, 256 + 3);
        DUE.is("all of the 16", x.judge(3), 0);
        x.sheet(3, 32, 1);
        x.put(3, 0, 3);
        DUE.is("32", x.judge(3), 1);
        x.put(3, 0, 65536 + 3);
        DUE.is("all of the 32", x.judge(3), 0);
        x.put(3, 0, Integer.MIN_VALUE + 3);
        DUE.is("the highest of the 32", x.judge(3), 0);
        x.put(3, 0, -1);
        DUE.is("below 0", x.judge(3), 0);
    }

    /** What stands in a SHEET: by how far it can be judged with only the PAIR at a place being free. */
    private static void stands(GreenPath x, String call, int sheet, int... pairs) {
        x.sheet(3, 8, 1);
        for (int i = 0; i < pairs.length; i++) {
            x.move(sheet, i, 3, 0, 1);
            for (int pair = 0; pair < 6; pair++) {
                x.fence(pair, pair == pairs[i] ? 0 : 1);
            }
            DUE.is(call + " at " + i, x.judge(3), 1);
        }
    }

    private static void moves() {
        GreenPath x = new GreenPath();
        for (int sort = 0; sort < 3; sort++) {
            x.be(sort, 3);
        }
        x.sheet(0, 8, 6);
        for (int i = 0; i < 6; i++) {
            x.put(0, i, i);
        }
        stands(x, "put", 0, 0, 1, 2, 3, 4, 5);
        DUE.is("move ahead", x.move(0, 0, 0, 2, 4), 4);
        stands(x, "move ahead", 0, 0, 1, 0, 1, 2, 3);
        DUE.is("move back", x.move(0, 1, 0, 0, 5), 5);
        stands(x, "move back", 0, 1, 0, 1, 2, 3, 3);
        x.sheet(1, 8, 2);
        DUE.is("move to another", x.move(0, 3, 1, 0, 2), 2);
        stands(x, "move to another", 1, 2, 3);
        DUE.is("move none", x.move(0, 6, 1, 2, 0), 0);
        DUE.is("move none beyond", x.move(0, 7, 1, 2, 0), Due.BEYOND);
        DUE.is("too many", x.move(0, 0, 1, 0, 3), Due.BEYOND);
        DUE.is("too far", x.move(0, 5, 1, 0, 2), Due.BEYOND);
        DUE.is("n -1", x.move(0, 1, 1, 1, -1), Due.BEYOND);
        DUE.is("i -1", x.move(0, -1, 1, 0, 1), Due.BEYOND);
        DUE.is("j -1", x.move(0, 0, 1, -1, 1), Due.BEYOND);
        DUE.is("far i", x.move(0, Integer.MAX_VALUE, 1, 0, 1), Due.BEYOND);
        DUE.is("far j", x.move(0, 0, 1, Integer.MAX_VALUE, 1), Due.BEYOND);
        DUE.is("far n", x.move(0, 1, 1, 1, Integer.MAX_VALUE), Due.BEYOND);
        DUE.is("low n", x.move(0, 1, 1, 1, Integer.MIN_VALUE), Due.BEYOND);
        stands(x, "as it was", 1, 2, 3);
        x.sheet(2, 16, 2);
        DUE.is("unlike", x.move(0, 0, 2, 0, 1), Due.KIND);
        DUE.is("unlike ahead of i", x.move(2, -1, 0, 0, 1), Due.KIND);
        x.sheet(2, 0, 0);
        DUE.is("missing", x.move(0, 0, 2, 0, 1), Due.NONE);
        DUE.is("missing first", x.move(2, -1, 0, 0, 1), Due.NONE);
        DUE.is("no sheet", x.move(4, 0, 2, 0, 1), Due.BEYOND);
        DUE.is("no other", x.move(2, 0, -1, 0, 1), Due.BEYOND);
    }

    private static void judges() {
        GreenPath x = new GreenPath();
        x.be(0, 2);
        x.be(1, 2);
        DUE.is("judge 4", x.judge(4), Due.BEYOND);
        DUE.is("judge -1", x.judge(-1), Due.BEYOND);
        DUE.is("judge missing", x.judge(0), Due.NONE);
        x.sheet(0, 32, 4);
        x.put(0, 0, 1);
        x.put(0, 1, 1);
        x.put(0, 2, 5);
        x.put(0, 3, 5);
        DUE.is("all may", x.judge(0), 4);
        x.put(0, 2, 1);
        DUE.is("not a third time", x.judge(0), 2);
        x.put(0, 1, 6);
        DUE.is("no PAIR", x.judge(0), 1);
        x.sheet(1, 16, 40);
        DUE.is("40 of PAIR 0", x.judge(1), 40);
        x.fence(1, 1);
        DUE.is("FENCED", x.judge(0), 0);
        DUE.is("nothing changes", x.count(0), 364);
        DUE.is("nothing MET", x.count(2) + x.count(3), 0);
    }
}
