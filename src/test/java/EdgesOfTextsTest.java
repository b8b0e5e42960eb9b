/** The edges that the document names in part 2 of its Terms and in promises 8 to 10, sentence by sentence. */
public final class EdgesOfTextsTest {
    private static final Due DUE = new Due("EdgesOfTextsTest");
    private static final Refusals NOT = new Refusals(DUE);
    private static final int MIN = Integer.MIN_VALUE;
    private static final int MAX = Integer.MAX_VALUE;
    private static final String SIGNS = "|&<=>+-*/%";

    public static void main(String[] args) {
        theTape();
        levels();
        comparisons();
        sums();
        products();
        numbers();
        names();
        signsAndBrackets();
        everyByte();
        noBlanks();
        fiveOpen();
        wraps();
        quotients();
        byZero();
        trueOrNot();
        allWorkedOut();
        faultPlaces();
        faultAtTheEnd();
        givesRests();
        givesWithout();
        prices();
        pricesHeld();
        priceWithout();
        feed();
        feedBeyond();
        feedFull();
        text();
        textBeyond();
        textFault();
        gives();
        givesBeyond();
        DUE.end();
    }

    private static void good(String... texts) {
        for (String text : texts) {
            DUE.is("text of GIVES " + text, Scenes.text(new GreenPath(), 0, text), 1);
            DUE.is("text of PRICE " + text, Scenes.text(new GreenPath(), 1, text), 1);
        }
    }

    private static void fault(int place, String... texts) {
        for (String text : texts) {
            DUE.is("text of GIVES " + text, Scenes.text(new GreenPath(), 0, text), -10 - place);
            DUE.is("text of PRICE " + text, Scenes.text(new GreenPath(), 1, text), -10 - place);
        }
    }

    /** What a TEXT is worth with a and b, as PRICE. */
    private static void worth(int want, String text, int a, int b) {
        GreenPath x = new GreenPath();
        DUE.is("text " + text, Scenes.text(x, 1, text), 1);
        DUE.is("gives " + text + " " + a + " " + b, x.gives(1, a, b, 0, 0), want);
    }

    private static void worth(int want, String text) {
        worth(want, text, 0, 0);
    }

    private static void theTape() {
        DUE.says("Terms", "TEXTS are read from THE TAPE (bytes, at most 50):");
        worth(24, "+1".repeat(24).substring(1));
        worth(25, "1" + "+1".repeat(24));
        worth(34, "10" + "+1".repeat(24));
        GreenPath x = new GreenPath();
        Scenes.feed(x, "10" + "+1".repeat(24));
        DUE.is("a 51st byte", x.feed('1', 1), Due.FULL);
        DUE.is("the TEXT of 50", x.text(1), 1);
        DUE.is("gives", x.gives(1, 0, 0, 0, 0), 34);
    }

    private static void levels() {
        DUE.says("Terms", "T: A { | A }. A: B { & B }.");
        good("a", "a|b", "a|b|a", "a&b", "a&b&a", "a|b&a", "a&b|a", "a<b|a<b", "a<b&a<b&a<b");
        fault(0, "|", "&", "|a", "&a");
        fault(2, "a|", "a&", "a||b", "a&&b", "a|&b", "a&|b");
        worth(1, "1|0&0");
        worth(1, "0&0|1");
        worth(0, "(1|0)&0");
        worth(1, "0|0|1");
        worth(0, "1&1&0");
    }

    private static void comparisons() {
        DUE.says("Terms", "B: S, or S < S, S = S, S > S.");
        good("a<b", "a=b", "a>b", "(a<b)<a", "a<(b<a)", "a<b|a<b|a<b", "a<b&a=b&a>b", "a+1<b-1");
        fault(0, "<a", "=a", ">a");
        fault(2, "a<", "a=", "a>", "a<=b", "a==b", "a>=b", "a<>b");
        fault(3, "a<b<a", "a<b=a", "a<b>a", "a=b=a", "a>b<a", "a>b>a");
        fault(5, "a<b+1>a", "a<b*1=a", "a+1<b<a");
        fault(4, "(a<b<a)");
        worth(1, "1<2");
        worth(1, "1+1=4/2");
        worth(0, "(1<2)>3");
        worth(1, "3>(2>1)");
    }

    private static void sums() {
        DUE.says("Terms", "S: P { + P, - P }.");
        good("a+b", "a-b", "a+b-a+b", "a-b-a");
        fault(0, "+a", "-a", "-1");
        fault(2, "a+", "a-", "a++b", "a--b", "a+-b", "a-+b");
        worth(5, "9-3-1");
        worth(7, "9-3+1");
        worth(7, "9-(3-1)");
    }

    private static void products() {
        DUE.says("Terms", "P: Q { * Q, / Q, % Q }.");
        good("a*b", "a/b", "a%b", "a*b/a%b");
        fault(0, "*a", "/a", "%a");
        fault(2, "a*", "a/", "a%", "a**b", "a//b", "a%%b", "a*/b", "a+*b", "a*+b");
        worth(12, "96/4/2");
        worth(6, "7%4*2");
        worth(2, "2*7%4");
        worth(14, "2+3*4");
        worth(20, "(2+3)*4");
        worth(1, "9-4*2");
    }

    private static final String SINGLE = "Q: a NUMBER of 1 to 4 digits, a NAME, ! Q, ( T ).";

    private static void numbers() {
        DUE.says("Terms", "Q: a NUMBER of 1 to 4 digits, a NAME, ! Q, ( T ).");
        good("0", "9", "00", "99", "000", "0000", "9999", "1+9999");
        fault(4, "00000", "12345", "99999", "10000+1");
        fault(6, "1+10000", "a*00001");
        fault(5, "(10000)", "!10000");
        worth(0, "0");
        worth(9, "9");
        worth(10, "0010");
        worth(99, "9999/101");
        worth(1, "1000=10*100");
    }

    private static void names() {
        DUE.says("Terms", SINGLE);
        for (int use = 0; use < 2; use++) {
            String names = use == 0 ? "abm" : "abkt";
            for (char name = 'a'; name <= 'z'; name++) {
                int want = names.indexOf(name) >= 0 ? 1 : -10;
                DUE.is("NAME " + name, Scenes.text(new GreenPath(), use, String.valueOf(name)), want);
                String upper = String.valueOf(Character.toUpperCase(name));
                DUE.is("no NAME " + upper, Scenes.text(new GreenPath(), use, upper), -10);
            }
        }
        fault(1, "ab", "a1", "1a", "aa", "a(", "1(", "a!", "1!");
        fault(3, "(a)b", "(a)1", "(a)(", "(a)!");
    }

    private static void signsAndBrackets() {
        DUE.says("Terms", SINGLE);
        good("!a", "!1", "!!a", "!(a)", "(a)", "(!a)", "((a))", "(a|b&a<b+1*2)", "!a<!b", "!a*!b");
        fault(1, "!", "(", "()", "!)", "!+", "(+", "a)", "(|", "!*");
        fault(2, "(a", "(1", "!(", "(!", "!!");
        fault(3, "(a+", "(a))", "(a)(a)");
        fault(0, ")", ")a");
        worth(2, "!0+1");
        worth(1, "!5+1");
        worth(0, "!(0+1)");
        worth(0, "!0*0");
    }

    private static String reading(int use, String text) {
        return text + ": " + Scenes.text(new GreenPath(), use, text);
    }

    private static void everyByte() {
        DUE.says("Terms", SINGLE);
        for (int use = 0; use < 2; use++) {
            String names = use == 0 ? "abm" : "abkt";
            for (char sign = 0; sign < 256; sign++) {
                boolean digit = sign >= '0' && sign <= '9';
                boolean name = names.indexOf(sign) >= 0;
                boolean opens = sign == '!' || sign == '(';
                boolean joins = SIGNS.indexOf(sign) >= 0;
                String text = "" + sign;
                DUE.is("alone", reading(use, text), text + ": " + (digit || name ? 1 : opens ? -11 : -10));
                text = "a" + sign;
                DUE.is("behind a NAME", reading(use, text), text + ": " + (joins ? -12 : -11));
                text = "1" + sign;
                DUE.is("behind a digit", reading(use, text), text + ": " + (digit ? 1 : joins ? -12 : -11));
                text = "1234" + sign;
                DUE.is("behind four digits", reading(use, text), text + ": " + (joins ? -15 : -14));
                text = "a" + sign + "b";
                DUE.is("between NAMES", reading(use, text), text + ": " + (joins ? 1 : -11));
                text = "(a" + sign;
                DUE.is("in brackets", reading(use, text), text + ": " + (sign == ')' ? 1 : joins ? -13 : -12));
                text = "a+" + sign;
                DUE.is("behind a sign", reading(use, text), text + ": " + (digit || name ? 1 : opens ? -13 : -12));
            }
        }
    }

    private static void noBlanks() {
        DUE.says("Terms", "No blanks.");
        fault(0, " ", " a", "\ta", "\na");
        fault(1, "a ", "a +b", "( a)", "! a", "1 2", "a\n", "a\r", "a\0");
        fault(2, "a+ b", "(a )", "12 3");
    }

    private static void fiveOpen() {
        DUE.says("Terms", "At most 5 of ! and ( are open at once.");
        good("!!!!a", "!!!!!a", "((((a))))", "(((((a)))))", "!(!(!a))", "(!(!(a)))", "(((((a)+!b))))", "!!!!!a+!!!!!b",
            "!a+!a+!a+!a+!a+!a+!a", "(a)+(a)+(a)+(a)+(a)+(a)", "(((((a)+(b)))))", "!!!!(a)+!!!!(a)", "((((!a+!b*!a))))",
            "!(!(!a+!a)+!(!a))");
        fault(5, "!!!!!!a", "((((((a))))))", "!(!(!(a)))", "!!!!!(a)", "(((((!a)))))", "!!!!(!a)", "!!!!!!", "((((((");
        fault(7, "(((((a+!b)))))", "(((((a+(b))))))");
        fault(8, "((((!a+(!(");
        fault(13, "(((((a)))+((((a");
        worth(0, "!!!!!1");
        worth(7, "(((((7)))))");
    }

    private static void wraps() {
        DUE.says("Terms", "Ints that wrap;");
        worth(1, "a+1<0", MAX, 0);
        worth(1, "a+0>0", MAX, 0);
        worth(1, "a-1>0", MIN, 0);
        worth(1, "a-0<0", MIN, 0);
        worth(1, "0-a=a", MIN, 0);
        worth(0, "a*b", 65536, 65536);
        worth(1, "a*a<0", 46341, 0);
        worth(1, "a*a>0", 46340, 0);
        worth(-2, "a+b", MAX, MAX);
        worth(0, "a+b", MIN, MIN);
        worth(1, "a*a", MAX, 0);
        worth(0, "a*a", MIN, 0);
        worth(-1, "a-b", MAX, MIN);
        worth(9999 * 9999 * 9999 % 89, "9999*9999*9999%89");
    }

    private static void quotients() {
        DUE.says("Terms", "Quotients are cut.");
        worth(3, "7/2");
        worth(-3, "(0-7)/2");
        worth(-3, "7/(0-2)");
        worth(3, "(0-7)/(0-2)");
        worth(0, "1/2");
        worth(0, "(0-1)/2");
        DUE.says("Terms", "/ cut, % the rest that it leaves,");
        worth(1, "7%3");
        worth(-1, "(0-7)%3");
        worth(1, "7%(0-3)");
        worth(-1, "(0-7)%(0-3)");
        worth(0, "6%3");
        worth(2, "2%3");
        worth(1, "a/b=a", MIN, -1);
        worth(5, "a%b+5", MIN, -1);
        worth(-1, "a/b", MIN, MAX);
        worth(-1, "a%b", MIN, MAX);
        worth(0, "a/b", MAX, MIN);
        worth(1, "a%b=a", MAX, MIN);
    }

    private static void byZero() {
        DUE.says("Terms", "both by 0 are 0;");
        worth(3, "7/0+3");
        worth(3, "7%0+3");
        worth(0, "0/0");
        worth(0, "0%0");
        worth(0, "a/b", MIN, 0);
        worth(0, "a%b", MIN, 0);
        worth(0, "a/b", MAX, 0);
        worth(0, "a%b", MAX, 0);
        worth(0, "1/(2-2)");
        worth(7, "7/1");
        worth(-7, "7/b", 0, -1);
    }

    private static void trueOrNot() {
        DUE.says("Terms", "| & < = > ! are 1 or 0, what is not 0 being true;");
        int[][] pairs = {{0, 0}, {0, 1}, {1, 0}, {1, 1}, {5, 0}, {0, -5}, {-5, 7}, {2, 4}, {MIN, 0}, {0, MAX}, {MIN, MAX}};
        int[] or = {0, 1, 1, 1, 1, 1, 1, 1, 1, 1, 1};
        int[] and = {0, 0, 0, 1, 0, 0, 1, 1, 0, 0, 1};
        for (int i = 0; i < pairs.length; i++) {
            worth(or[i], "a|b", pairs[i][0], pairs[i][1]);
            worth(and[i], "a&b", pairs[i][0], pairs[i][1]);
        }
        int[][] unlike = {{2, 3}, {-3, -2}, {-1, 0}, {0, 1}, {MIN, MAX}, {MIN, MIN + 1}, {MAX - 1, MAX}, {MIN, 0}};
        for (int[] two : unlike) {
            worth(1, "a<b", two[0], two[1]);
            worth(0, "a<b", two[1], two[0]);
            worth(0, "a>b", two[0], two[1]);
            worth(1, "a>b", two[1], two[0]);
            worth(0, "a=b", two[0], two[1]);
        }
        int[] alike = {0, 1, -1, 300, MIN, MAX};
        for (int v : alike) {
            worth(0, "a<b", v, v);
            worth(1, "a=b", v, v);
            worth(0, "a>b", v, v);
            worth(v == 0 ? 1 : 0, "!a", v, 0);
            worth(v == 0 ? 0 : 1, "!!a", v, 0);
        }
    }

    private static void allWorkedOut() {
        DUE.says("Terms", "all is worked out.");
        worth(1, "1|7/0");
        worth(1, "7/0|1");
        worth(0, "0&7/0");
        worth(0, "0&(1|2%0)");
        worth(1, "1|0|7%0&1");
    }

    private static void faultPlaces() {
        DUE.says("Terms", "FAULT: the place of the first byte with which no TEXT goes on;");
        fault(0, "?", "?a", "?(((");
        fault(1, "a?", "a?b?", "(?");
        fault(47, "1" + "+1".repeat(23) + "?+1");
        fault(48, "10" + "+1".repeat(23) + "?1");
        fault(49, "1" + "+1".repeat(24) + "?", "1" + "+1".repeat(24) + "(", "1" + "+1".repeat(24) + ")");
        fault(49, "1+" + "1+".repeat(23) + "1)", "10+" + "1+".repeat(23) + "?");
    }

    private static void faultAtTheEnd() {
        DUE.says("Terms", "how many there are, if it ends too early.");
        fault(0, "");
        fault(1, "(", "!");
        fault(2, "a+", "(a", "(!");
        fault(49, "10" + "+1".repeat(23) + "+", "(" + "1+".repeat(23) + "10");
        fault(50, "1+".repeat(25), "(" + "1+".repeat(24) + "1", "1+".repeat(24) + "!!", "1+".repeat(24) + "((");
    }

    private static void givesRests() {
        DUE.says("Terms", "USES: 0 GIVES, NAMES a, b, m m; its rest by 3 (below 0: 0);");
        GreenPath x = new GreenPath();
        Scenes.text(x, 0, "a");
        int[] rests = {0, 0, 0, 0, 0, 1, 2, 0, 1};
        for (int a = -4; a <= 4; a++) {
            DUE.is("gives " + a, x.gives(0, a, 0, 0, 0), rests[a + 4]);
        }
        DUE.is("gives the least", x.gives(0, MIN, 0, 0, 0), 0);
        DUE.is("gives the most", x.gives(0, MAX, 0, 0, 0), 1);
        Scenes.text(x, 0, "a*b-m");
        DUE.is("gives a, b, m", x.gives(0, 2, 5, 3, 100), 1);
        DUE.is("gives a, b, m below 0", x.gives(0, 2, 5, 12, 100), 0);
        Scenes.text(x, 0, "b");
        DUE.is("gives b", x.gives(0, 0, 2, 0, 0), 2);
        Scenes.text(x, 0, "m");
        DUE.is("gives m", x.gives(0, 0, 0, 2, 0), 2);
    }

    private static void givesWithout() {
        DUE.says("Terms", "without a TEXT that of a+b+m.");
        GreenPath x = new GreenPath();
        DUE.is("a", x.gives(0, 1, 0, 0, 0), 1);
        DUE.is("b", x.gives(0, 0, 2, 0, 0), 2);
        DUE.is("m", x.gives(0, 0, 0, 8, 0), 2);
        DUE.is("no d", x.gives(0, 0, 0, 0, 1), 0);
        DUE.is("below 0", x.gives(0, -1, -1, 0, 0), 0);
        DUE.is("just 0", x.gives(0, -1, 1, 0, 0), 0);
        DUE.is("just 1", x.gives(0, -1, 1, 1, 0), 1);
        DUE.is("the most", x.gives(0, MAX, 0, 0, 0), 1);
        DUE.is("beyond the most", x.gives(0, MAX, 1, 0, 0), 0);
        DUE.is("all the way round", x.gives(0, MAX, MAX, 10, 0), 2);
        DUE.is("the least and one less", x.gives(0, MIN, -1, 0, 0), 1);
        x.text(0);
        DUE.is("behind a FAULT", x.gives(0, 1, 1, 0, 0), 2);
    }

    private static void prices() {
        DUE.says("Terms", "1 PRICE of a MEETING (what it adds to SPENT), NAMES a, b, k KIND, t MET ahead of it;");
        String[] names = {"a", "b", "k", "t"};
        // by PAIR 4 (1 and 2) of KIND 6, three times, then by PAIR 3 (1 and 1) of KIND 0
        int[][] spent = {{1, 2, 3, 4}, {2, 4, 6, 7}, {6, 12, 18, 18}, {0, 1, 3, 6}};
        for (int i = 0; i < 4; i++) {
            GreenPath x = Due.island(0, 5, 5);
            Scenes.text(x, 1, names[i]);
            x.law(4, 61);
            x.law(3, 0);
            for (int time = 0; time < 4; time++) {
                x.meet(time < 3 ? 4 : 3);
                DUE.is("SPENT by " + names[i], x.count(3), spent[i][time]);
            }
        }
    }

    private static void pricesHeld() {
        DUE.says("Terms", "held within -99 to 99;");
        GreenPath x = new GreenPath();
        Scenes.text(x, 1, "a");
        int[][] held = {{98, 98}, {99, 99}, {100, 99}, {MAX, 99}, {-98, -98}, {-99, -99}, {-100, -99}, {MIN, -99}, {0, 0}};
        for (int[] two : held) {
            DUE.is("PRICE " + two[0], x.gives(1, two[0], 0, 0, 0), two[1]);
        }
        x = Due.island(0, 0, 2);
        Scenes.text(x, 1, "100-200*t");
        x.meet(5);
        DUE.is("SPENT by 100", x.count(3), 99);
        x.meet(5);
        DUE.is("SPENT by -100", x.count(3), 0);
    }

    private static void priceWithout() {
        DUE.says("Terms", "without 1.");
        GreenPath x = Due.island(0, 0, 2);
        DUE.is("PRICE", x.gives(1, MIN, MAX, 5, 5), 1);
        x.meet(5);
        DUE.is("SPENT", x.count(3), 1);
        x.text(1);
        DUE.is("behind a FAULT", x.gives(1, 0, 0, 0, 0), 1);
        Scenes.text(x, 0, "2");
        DUE.is("behind a TEXT of GIVES", x.gives(1, 0, 0, 0, 0), 1);
    }

    private static void feed() {
        DUE.says("Promise 8", "The n lowest bytes (1 .. 8) of a word, the lowest first, come to THE TAPE: how many there are.");
        long sums = 0x2B342B332B322B31L;
        int[] worths = {1, 0, 3, 0, 6, 0, 10, 0};
        for (int n = 1; n <= 8; n++) {
            GreenPath x = new GreenPath();
            DUE.is("feed " + n, x.feed(sums, n), n);
            DUE.is("bytes", x.count(4), n);
            DUE.is("text", x.text(1), n % 2 == 1 ? 1 : -10 - n);
            DUE.is("gives", x.gives(1, 0, 0, 0, 0), n % 2 == 1 ? worths[n - 1] : 1);
        }
        GreenPath x = new GreenPath();
        DUE.is("the highest byte", x.feed(0x312B312B312B3131L, 8), 8);
        x.text(1);
        DUE.is("gives", x.gives(1, 0, 0, 0, 0), 14);
        long[] words = {Long.MIN_VALUE, Long.MAX_VALUE, 0L, -1L};
        for (long word : words) {
            DUE.is("feed all of " + word, x.feed(word, 8), 8);
            DUE.is("no TEXT", x.text(1), -10);
            DUE.is("the lowest of " + word, x.feed(word & -256L | 'b', 1), 1);
            DUE.is("is a TEXT", x.text(1), 1);
        }
        x.feed('a' | 0x8000L | '+' << 8, 2);
        DUE.is("a byte above 127", x.text(1), -11);
        DUE.is("one", x.feed('a', 1), 1);
        DUE.is("behind it", x.feed('+' | 'b' << 8, 2), 3);
        DUE.is("both", x.text(1), 1);
        DUE.is("gives both", x.gives(1, 3, 4, 0, 0), 7);
    }

    private static void feedBeyond() {
        DUE.says("Promise 8", "BEYOND.");
        for (int bad : Refusals.outside(1, 8)) {
            NOT.refused("feed " + bad, Due.BEYOND, x -> x.feed('1', bad));
            NOT.refused("feed least " + bad, Due.BEYOND, x -> x.feed(Long.MIN_VALUE, bad));
            NOT.refused("feed most " + bad, Due.BEYOND, x -> x.feed(Long.MAX_VALUE, bad));
            NOT.refused("feed ahead of FULL " + bad, Due.BEYOND, () -> Scenes.bytes(50), x -> x.feed('1', bad));
        }
    }

    private static void feedFull() {
        DUE.says("Promise 8", "FULL.");
        for (int n = 1; n <= 8; n++) {
            int many = n;
            GreenPath x = Scenes.bytes(50 - n);
            DUE.is("up to 50 by " + n, x.feed('1', n), 50);
            x = Scenes.bytes(49 - n);
            DUE.is("up to 49 by " + n, x.feed('1', n), 49);
            NOT.refused("up to 51 by " + n, Due.FULL, () -> Scenes.bytes(51 - many), y -> y.feed('1', many));
            NOT.refused("beyond 50 by " + n, Due.FULL, () -> Scenes.bytes(50), y -> y.feed(Long.MIN_VALUE, many));
        }
        GreenPath x = new GreenPath();
        Scenes.feed(x, "1" + "+1".repeat(23));
        DUE.is("47 bytes", x.count(4), 47);
        DUE.is("no part of it comes", x.feed(0x312B312BL, 4), Due.FULL);
        DUE.is("47 bytes still", x.count(4), 47);
        DUE.is("three may come", x.feed(0x31312BL, 3), 50);
        DUE.is("the TEXT", x.text(1), 1);
        DUE.is("gives", x.gives(1, 0, 0, 0, 0), 35);
    }

    private static void text() {
        DUE.says("Promise 9", "THE TAPE, which is empty then, is the TEXT of a USE (0, 1), in place of one ahead: 1.");
        GreenPath x = new GreenPath();
        for (int use = 0; use < 2; use++) {
            DUE.is("text", Scenes.text(x, use, "a"), 1);
            DUE.is("no bytes", x.count(4), 0);
            DUE.is("gives a", x.gives(use, 2, 1, 0, 0), 2);
            DUE.is("text in its place", Scenes.text(x, use, "b"), 1);
            DUE.is("no bytes", x.count(4), 0);
            DUE.is("gives b", x.gives(use, 2, 1, 0, 0), 1);
        }
        Scenes.text(x, 0, "2");
        DUE.is("the other USE stays", x.gives(1, 2, 7, 0, 0), 7);
        Scenes.feed(x, "10" + "+1".repeat(24));
        DUE.is("50 bytes", x.text(0), 1);
        DUE.is("no bytes", x.count(4), 0);
        DUE.is("50 bytes anew", x.feed('a', 1), 1);
        x.law(1, 60);
        x.text(0);
        DUE.is("TOLD by a", x.ofPair(1, 5), 0);
        Scenes.text(x, 0, "b");
        DUE.is("TOLD by b", x.ofPair(1, 5), 1);
    }

    private static void textBeyond() {
        DUE.says("Promise 9", "BEYOND (THE TAPE stays).");
        for (int bad : Refusals.outside(0, 1)) {
            NOT.refused("text " + bad, Due.BEYOND, x -> x.text(bad));
            NOT.refused("text of nothing " + bad, Due.BEYOND, () -> Scenes.bytes(0), x -> x.text(bad));
            GreenPath x = new GreenPath();
            Scenes.feed(x, "a+b");
            x.text(bad);
            DUE.is("bytes", x.count(4), 3);
            DUE.is("text of them", x.text(1), 1);
            DUE.is("gives them", x.gives(1, 3, 4, 0, 0), 7);
        }
    }

    private static void textFault() {
        DUE.says("Promise 9", "-10 less the FAULT (no ERROR; the one ahead stays; THE TAPE is empty, too).");
        String[] texts = {"", "?", "a?", "1" + "+1".repeat(24) + "?", "1+".repeat(25)};
        int[] faults = {0, 0, 1, 49, 50};
        for (int use = 0; use < 2; use++) {
            for (int i = 0; i < texts.length; i++) {
                GreenPath x = new GreenPath();
                Scenes.text(x, use, "b");
                DUE.is("text", Scenes.text(x, use, texts[i]), -10 - faults[i]);
                DUE.is("no bytes", x.count(4), 0);
                DUE.is("the one ahead", x.gives(use, 1, 2, 1, 1), 2);
                for (int k = 1; k <= 5; k++) {
                    DUE.is("no ERROR", x.told(k), 0);
                }
                DUE.is("the next one", Scenes.text(x, use, "a"), 1);
                DUE.is("gives the next one", x.gives(use, 1, 2, 1, 1), 1);
            }
        }
    }

    private static void gives() {
        DUE.says("Promise 10", "What a USE gives with its NAMES in order as a, b, c, d.");
        GreenPath x = new GreenPath();
        Scenes.text(x, 1, "a*64+b*16+k*4+t");
        DUE.is("a", x.gives(1, 1, 0, 0, 0), 64);
        DUE.is("b", x.gives(1, 0, 1, 0, 0), 16);
        DUE.is("k", x.gives(1, 0, 0, 1, 0), 4);
        DUE.is("t", x.gives(1, 0, 0, 0, 1), 1);
        DUE.is("all", x.gives(1, 1, 1, 1, 1), 85);
        Scenes.text(x, 0, "a/9%3+b/3%3+m%3");
        DUE.is("a of GIVES", x.gives(0, 9, 1, 0, 1), 1);
        DUE.is("b of GIVES", x.gives(0, 1, 6, 0, 1), 2);
        DUE.is("m of GIVES", x.gives(0, 1, 1, 2, 1), 2);
        DUE.is("no d of GIVES", x.gives(0, 1, 1, 0, MAX), 0);
        String[] names = {"a", "b", "k", "t"};
        for (int i = 0; i < 4; i++) {
            Scenes.text(x, 1, names[i]);
            int[] low = {0, 0, 0, 0};
            low[i] = MIN;
            DUE.is("the least " + names[i], x.gives(1, low[0], low[1], low[2], low[3]), -99);
            low[i] = MAX;
            DUE.is("the most " + names[i], x.gives(1, low[0], low[1], low[2], low[3]), 99);
        }
        DUE.is("nothing MET of it", x.count(2) + x.count(3), 0);
    }

    private static void givesBeyond() {
        DUE.says("Promise 10", "BEYOND.");
        for (int bad : Refusals.outside(0, 1)) {
            NOT.refused("gives " + bad, Due.BEYOND, x -> x.gives(bad, 0, 0, 0, 0));
            NOT.refused("gives " + bad, Due.BEYOND, x -> x.gives(bad, MIN, MAX, MIN, MAX));
        }
    }
}
