/** Promises 8 to 10: feed, text, gives. */
public final class TextsTest {
    private static final Due DUE = new Due("TextsTest");

    public static void main(String[] args) {
        theTape();
        textsOfUses();
        faults();
        worths();
        limits();
        DUE.end();
    }

    static void feedAll(GreenPath x, String text) {
        for (int i = 0; i < text.length(); i++) {
            x.feed(text.charAt(i), 1);
        }
    }

    private static void theTape() {
        GreenPath x = new GreenPath();
        DUE.is("feed 0", x.feed('a', 0), Due.BEYOND);
        DUE.is("feed 9", x.feed('a', 9), Due.BEYOND);
        DUE.is("feed -1", x.feed('a', -1), Due.BEYOND);
        DUE.is("feed 3, the lowest first", x.feed('a' | '+' << 8 | '1' << 16, 3), 3);
        DUE.is("count 4", x.count(4), 3);
        DUE.is("text 0", x.text(0), 1);
        DUE.is("count 4 then", x.count(4), 0);
        DUE.is("gives a+1", x.gives(0, 1, 0, 0, 0), 2);
        for (int i = 1; i <= 6; i++) {
            DUE.is("feed 8", x.feed(0x3131313131313131L, 8), 8 * i);
        }
        DUE.is("feed 3 more", x.feed(0, 3), Due.FULL);
        DUE.is("feed 9 more", x.feed(0, 9), Due.BEYOND);
        DUE.is("feed 2 more", x.feed(0, 2), 50);
        DUE.is("feed 1 more", x.feed(0, 1), Due.FULL);
        DUE.is("bytes", x.count(4), 50);
        DUE.is("the fifth digit", x.text(0), -14);
        DUE.is("no bytes", x.count(4), 0);
        DUE.is("the lowest byte alone", x.feed(-1L << 8 | 'b', 1), 1);
        DUE.is("text", x.text(0), 1);
        DUE.is("11+22+33", x.feed(0x33332B32322B3131L, 8), 8);
        DUE.is("text", x.text(1), 1);
        DUE.is("gives 11+22+33", x.gives(1, 0, 0, 0, 0), 66);
    }

    private static void textsOfUses() {
        GreenPath x = new GreenPath();
        feedAll(x, "m");
        DUE.is("text 2", x.text(2), Due.BEYOND);
        DUE.is("text -1", x.text(-1), Due.BEYOND);
        DUE.is("bytes stay", x.count(4), 1);
        DUE.is("text 1 has no m", x.text(1), -10);
        DUE.is("told nothing of it", x.told(2) + x.told(3) + x.told(4) + x.told(5), 0);
        DUE.is("no bytes", x.count(4), 0);
        DUE.is("price as at first", x.gives(1, 5, 5, 5, 5), 1);
        feedAll(x, "m*2");
        DUE.is("text", x.text(0), 1);
        DUE.is("gives m*2", x.gives(0, 9, 9, 4, 9), 2);
        feedAll(x, "m*");
        DUE.is("text that ends", x.text(0), -12);
        DUE.is("the one ahead", x.gives(0, 9, 9, 4, 9), 2);
        feedAll(x, "a");
        DUE.is("text in its place", x.text(0), 1);
        DUE.is("gives a", x.gives(0, 10, 9, 4, 9), 1);
        feedAll(x, "a*1000+b*100+k*10+t-4300");
        DUE.is("price text", x.text(1), 1);
        DUE.is("gives NAMES in order", x.gives(1, 4, 3, 2, 1), 21);
        DUE.is("gives 2", x.gives(2, 0, 0, 0, 0), Due.BEYOND);
        DUE.is("gives -1", x.gives(-1, 0, 0, 0, 0), Due.BEYOND);
        x = new GreenPath();
        DUE.is("GIVES without", x.gives(0, 1, 2, 2, 9), 2);
        DUE.is("GIVES below 0", x.gives(0, -1, -1, 0, 0), 0);
        DUE.is("GIVES that wraps", x.gives(0, Integer.MAX_VALUE, 1, 0, 0), 0);
        DUE.is("GIVES that wraps twice", x.gives(0, Integer.MAX_VALUE, Integer.MAX_VALUE, 10, 0), 2);
    }

    private static void fault(String text, int use, int place) {
        GreenPath x = new GreenPath();
        feedAll(x, text);
        DUE.is("text " + use + " " + text, x.text(use), place < 0 ? 1 : -10 - place);
    }

    private static void faults() {
        String[] good = {"a", "1234", "0000", "a<b&a<b", "a<b|a>b", "!!!!!a", "(((((a)))))", "!(!(!a))", "(a<b)<b", "!a<b",
            "!a&!a&!a&!a&!a&!a&!a", "(a)+(a)+(a)+(a)+(a)+(a)", "!(a)+!!!!(a)", "a%b/1*2", "(a|b)&(a=b)", "a<!b", "a<b+1*2"};
        for (String text : good) {
            fault(text, 0, -1);
            fault(text, 1, -1);
        }
        fault("", 0, 0);
        fault("+", 0, 0);
        fault("-1", 0, 0);
        fault(" a", 0, 0);
        fault("a ", 0, 1);
        fault("a+", 0, 2);
        fault("a++a", 0, 2);
        fault("a<b<a", 0, 3);
        fault("a<b+a=a", 0, 5);
        fault("(a<b>a)", 0, 4);
        fault("a<", 0, 2);
        fault("a<=b", 0, 2);
        fault("12345", 0, 4);
        fault("1+00001", 0, 6);
        fault("a1", 0, 1);
        fault("1a", 0, 1);
        fault("ab", 0, 1);
        fault("(a", 0, 2);
        fault("(a+", 0, 3);
        fault("(a))", 0, 3);
        fault(")", 0, 0);
        fault("()", 0, 1);
        fault("a)", 0, 1);
        fault("a(", 0, 1);
        fault("a!", 0, 1);
        fault("!", 0, 1);
        fault("!!!!!!a", 0, 5);
        fault("((((((a))))))", 0, 5);
        fault("!(!(!(a)))", 0, 5);
        fault("!!!!(!a)", 0, 5);
        fault("!!!!!(a)", 0, 5);
        fault("(((((a)))+(((a", 0, 14);
        fault("(((((a)))+((((a", 0, 13);
        fault("k", 0, 0);
        fault("t", 0, 0);
        fault("m", 1, 0);
        fault("a+m", 1, 2);
        fault("A", 0, 0);
        fault("a" + (char) 0, 0, 1);
        fault("" + (char) 0, 0, 0);
        fault("a" + (char) 225, 0, 1);
        fault("" + (char) 255, 0, 0);
    }

    private static void worth(String text, int a, int b, int k, int t, int want) {
        GreenPath x = new GreenPath();
        feedAll(x, text);
        DUE.is("text " + text, x.text(1), 1);
        DUE.is("gives " + text, x.gives(1, a, b, k, t), want);
    }

    private static void worths() {
        worth("2+3*4", 0, 0, 0, 0, 14);
        worth("(2+3)*4", 0, 0, 0, 0, 20);
        worth("9-3-1", 0, 0, 0, 0, 5);
        worth("9-(3-1)", 0, 0, 0, 0, 7);
        worth("96/4/2", 0, 0, 0, 0, 12);
        worth("2*7%4", 0, 0, 0, 0, 2);
        worth("7/2", 0, 0, 0, 0, 3);
        worth("(0-7)/2", 0, 0, 0, 0, -3);
        worth("(0-7)%3", 0, 0, 0, 0, -1);
        worth("7%(0-3)", 0, 0, 0, 0, 1);
        worth("7/0+3", 0, 0, 0, 0, 3);
        worth("7%0+3", 0, 0, 0, 0, 3);
        worth("1|0&0", 0, 0, 0, 0, 1);
        worth("(1|0)&0", 0, 0, 0, 0, 0);
        worth("5|0", 0, 0, 0, 0, 1);
        worth("0|0", 0, 0, 0, 0, 0);
        worth("5&2", 0, 0, 0, 0, 1);
        worth("(0-5)&7", 0, 0, 0, 0, 1);
        worth("5&0", 0, 0, 0, 0, 0);
        worth("1<2", 0, 0, 0, 0, 1);
        worth("2<2", 0, 0, 0, 0, 0);
        worth("2=2", 0, 0, 0, 0, 1);
        worth("2=3", 0, 0, 0, 0, 0);
        worth("3>2", 0, 0, 0, 0, 1);
        worth("2>2", 0, 0, 0, 0, 0);
        worth("1+1=4/2", 0, 0, 0, 0, 1);
        worth("1<2&3", 0, 0, 0, 0, 1);
        worth("!0+1", 0, 0, 0, 0, 2);
        worth("!5+1", 0, 0, 0, 0, 1);
        worth("!!7", 0, 0, 0, 0, 1);
        worth("!(0-7)", 0, 0, 0, 0, 0);
        worth("0010", 0, 0, 0, 0, 10);
        worth("b-a", 3, 10, 0, 0, 7);
        worth("k*t", 0, 0, 6, 7, 42);
        worth("a+1<0", Integer.MAX_VALUE, 0, 0, 0, 1);
        worth("a-1>0", Integer.MIN_VALUE, 0, 0, 0, 1);
        worth("a*b", 65536, 65536, 0, 0, 0);
        worth("a/b=a", Integer.MIN_VALUE, -1, 0, 0, 1);
        worth("a%b+5", Integer.MIN_VALUE, -1, 0, 0, 5);
        worth("a", Integer.MIN_VALUE, 0, 0, 0, -99);
        worth("a", Integer.MAX_VALUE, 0, 0, 0, 99);
        worth("a", 99, 0, 0, 0, 99);
        worth("a", 100, 0, 0, 0, 99);
        worth("a", -99, 0, 0, 0, -99);
        worth("a", -100, 0, 0, 0, -99);
    }

    private static void limits() {
        GreenPath x = new GreenPath();
        feedAll(x, "10" + "+1".repeat(24));
        DUE.is("50 bytes", x.count(4), 50);
        DUE.is("text of 50", x.text(1), 1);
        DUE.is("gives of 50", x.gives(1, 0, 0, 0, 0), 34);
        feedAll(x, "1" + "+1".repeat(24) + "+");
        DUE.is("text of 50 that ends", x.text(1), -60);
        feedAll(x, "0|1&1=1+1*(0|1&1=1+1*(0|1&1=1+1*(0|1&1=1+1*1-1))))");
        DUE.is("deep", x.count(4), 50);
        DUE.is("deep text", x.text(1), -59);
        feedAll(x, "0|1&1=1+0*(0|1&1=1+0*(0|1&1=1+0*(0|1&1=1+0*1)))");
        DUE.is("deep text", x.text(1), 1);
        DUE.is("gives deep", x.gives(1, 0, 0, 0, 0), 1);
    }
}
