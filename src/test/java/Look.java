import java.util.ArrayList;
import java.util.List;

/** All that can be seen of an object, as rows of calls and answers; each look wants an object of its own. */
final class Look {
    /** How many unlike looks there are. */
    static final int LOOKS = 5;

    private final GreenPath x;
    private final List<String> rows = new ArrayList<>();

    private Look(GreenPath x) {
        this.x = x;
    }

    static List<String> at(GreenPath x, int look) {
        Look looker = new Look(x);
        switch (look) {
            case 0: looker.whatIs(); break;
            case 1: looker.whatCanBe(); break;
            case 2: looker.sheets(); break;
            case 3: looker.tapeAndWaiting(); break;
            default: looker.image(); break;
        }
        return looker.rows;
    }

    private void row(String call, long answer) {
        rows.add(call + " " + answer);
    }

    private void whatIs() {
        for (int sort = 0; sort < 3; sort++) {
            row("of " + sort, x.of(sort));
        }
        for (int pair = 0; pair < 6; pair++) {
            for (int what = 0; what < 8; what++) {
                row("ofPair " + pair + " " + what, x.ofPair(pair, what));
            }
        }
        for (int what = 0; what < 8; what++) {
            row("count " + what, x.count(what));
        }
        int bodies = x.count(6);
        for (int i = 0; i <= bodies; i++) {
            row("trace " + i, x.trace(i));
        }
        for (int i = 0; i < 4; i++) {
            row("gives 0 " + i, x.gives(0, i, i * i, 1, 0));
            row("gives 1 " + i, x.gives(1, i, 2 * i, 3 * i, i * i));
        }
    }

    private void whatCanBe() {
        row("reached", x.reached());
        row("allWays", x.allWays(3));
        for (int sort = 0; sort < 3; sort++) {
            for (int what = 0; what < 2; what++) {
                row("can " + sort + " " + what, x.can(sort, what));
                row("fences " + sort + " " + what, x.fences(sort, what));
            }
            row("force " + sort, x.force(sort));
            row("bars " + sort, x.bars(sort, 3));
        }
        for (int n = 0; n < 3; n++) {
            row("was " + n, x.was(n, 0));
            row("was least " + n, x.was(n, 1));
        }
        for (int k = 2; k < 6; k++) {
            row("stays " + k, x.stays(k, -1));
            row("stays first " + k, x.stays(k, 0));
        }
        for (int state = 0; state < 60; state++) {
            row("reach " + state, x.reach(state));
        }
    }

    /** A number of a SHEET is seen by which PAIR alone may be free, if it is to meet. */
    private void sheets() {
        int[] many = {0, 1, 2, 3, 4, 40};
        int[] wide = {0, 0, 0, 0};
        for (int sheet = 0; sheet < 4; sheet++) {
            row("judge " + sheet, x.judge(sheet));
            for (int n : many) {
                row("as many as " + n + " in " + sheet, x.move(sheet, 0, sheet, 0, n));
            }
        }
        for (int sheet = 0; sheet < 3; sheet++) {
            for (int bits = 8; bits <= 32; bits *= 2) {
                x.sheet(3, bits, 1);
                long answer = x.move(sheet, 0, 3, 0, 1);
                row("bits " + bits + " of " + sheet, answer);
                wide[sheet] = answer == 1 ? bits : wide[sheet];
            }
        }
        for (int sort = 0; sort < 6; sort++) {
            x.be(sort % 3, sort < 3 ? 0 : 2);
        }
        for (int pair = 0; pair < 6; pair++) {
            x.fence(pair, 1);
        }
        for (int sheet = 0; sheet < 3; sheet++) {
            x.sheet(3, wide[sheet], 1);
            for (int i = 0; i < 3; i++) {
                number(sheet, i);
            }
        }
    }

    private void number(int sheet, int i) {
        row("number " + i + " of " + sheet + " comes", x.move(sheet, i, 3, 0, 1));
        for (int pair = 0; pair < 6; pair++) {
            x.fence(pair, 0);
            row("number " + i + " of " + sheet + " is " + pair, x.judge(3));
            x.fence(pair, 1);
        }
    }

    private void tapeAndWaiting() {
        row("bytes", x.count(4));
        Scenes.feed(x, "a");
        row("text", x.text(1));
        row("gives", x.gives(1, 4, 0, 0, 0));
        row("wait", x.count(5));
        x.tell(-1);
        row("check", x.check());
        row("wait then", x.count(5));
        row("chance", x.chance(1));
        row("z", x.count(7));
        row("spent", x.count(3));
    }

    private void image() {
        row("restore", x.restore());
        whatIs();
        tapeAndWaiting();
        row("restore again", x.restore());
        row("image", x.image());
    }
}
