/** Promises 12 to 15: THE TAPE, TEXTS, and what they give. */
final class TextsTest {
    public static void main(String[] args) {
        feed();
        faults();
        openAtOnce();
        namesOfUses();
        replaced();
        untell();
        law();
        ranks();
        wraps();
        Due.end();
    }

    private static void feed() {
        ParrotVow x = new ParrotVow();
        Due.due("feed(lowest first)", x.feed(0x3132332B7433L, 3), 3);
        Due.due("feed one more", x.feed(0x7F39L, 1), 4);
        Due.due("count(5)", x.count(5), 4);
        x.feed(0x2L, 1);
        Due.due("3t+9 and a fault", x.text(1), -10 - 1);
        x.feed(0x32312B74L, 4);
        Due.due("text(1)", x.text(1), 1);
        Due.due("t+12", x.law(1, 3, 0, 0), 15);
        Due.due("feed of eight bytes", x.feed(0x3939393939393939L, 8), 8);
        for (int i = 0; i < 6; i++) {
            x.feed(0L, 8);
        }
        Due.due("feed of 5 with 56", x.feed(0L, 5), Due.FULL);
        Due.due("feed of 4 with 56", x.feed(0L, 4), 60);
        Due.due("feed of 1 with 60", x.feed(0L, 1), Due.FULL);
        Due.due("feed of 9 with 60", x.feed(0L, 9), Due.BEYOND);
        Due.due("feed of 0 with 60", x.feed(0L, 0), Due.BEYOND);
        Due.due("count(5)", x.count(5), 60);
        Due.refused("feed(97, 0)", Due::busy, y -> y.feed(97L, 0), Due.BEYOND);
        Due.refused("feed(97, 9)", Due::busy, y -> y.feed(97L, 9), Due.BEYOND);
        Due.refused("feed(97, -1)", Due::busy, y -> y.feed(97L, -1), Due.BEYOND);
        Due.refused("feed too many", TextsTest::longTape, y -> y.feed(97L, 2), Due.FULL);
        highBytes();
        words();
    }

    /** The n lowest bytes, the lowest first; what stands above them doesn't matter. */
    private static void words() {
        String text = "9+t*2-sd";
        int[] wants = {9, -12, 19, -14, 29, -16, 26, -17};
        for (int n = 1; n <= 8; n++) {
            for (long above = -1L; above <= 1L; above++) {
                ParrotVow x = new ParrotVow();
                long word = n < 8 ? above << (8 * n) : 0L;
                for (int i = 0; i < n; i++) {
                    word |= (long) text.charAt(i) << (8 * i);
                }
                Due.due("feed of " + n + " bytes", x.feed(word, n), n);
                int read = x.text(1);
                Due.due("text(1) of " + n + " bytes", read == 1 ? x.law(1, 10, 3, 0) : read, wants[n - 1]);
            }
        }
    }

    private static ParrotVow longTape() {
        ParrotVow x = Due.busy();
        for (int i = x.count(5); i < 59; i++) {
            x.feed(97L, 1);
        }
        return x;
    }

    private static void highBytes() {
        ParrotVow x = new ParrotVow();
        x.feed(-1L, 8);
        Due.due("bytes 255", x.text(0), -10);
        x.feed(0x0161L, 2);
        Due.due("byte 1 behind a", x.text(0), -11);
        x.feed(0x0061L, 2);
        Due.due("byte 0 behind a", x.text(0), -11);
        x.feed(0x00L, 1);
        Due.due("byte 0", x.text(0), -10);
        x.feed(0x2B61L, 2);
        x.feed(0x00L, 1);
        Due.due("byte 0 behind a+", x.text(0), -12);
        x.feed(0xE1L, 1);
        Due.due("byte 225 is not a", x.text(0), -10);
    }

    private static void fault(int use, String text, int fault) {
        ParrotVow x = new ParrotVow();
        Due.due("text(" + use + ") of " + text, Due.text(x, use, text), fault < 0 ? 1 : -10 - fault);
        Due.due("then count(5)", x.count(5), 0);
        Due.due("then untell(" + use + ")", x.untell(use), fault < 0 ? 1 : 0);
    }

    private static void faults() {
        fault(0, "", 0);
        fault(0, "a", -1);
        fault(0, "a+", 2);
        fault(0, "+a", 0);
        fault(0, "a b", 1);
        fault(0, "ab", 1);
        fault(0, "1a", 1);
        fault(0, "a1", 1);
        fault(0, "1234", -1);
        fault(0, "0000", -1);
        fault(0, "12345", 4);
        fault(0, "a<b=f", 3);
        fault(0, "a<b&b>f", -1);
        fault(0, "a=(b=f)", -1);
        fault(0, "a<b<f", 3);
        fault(0, "a<b+1>f", 5);
        fault(0, "a<<b", 2);
        fault(0, "a||b", 2);
        fault(0, "a&|b", 2);
        fault(0, "a--b", 2);
        fault(0, "a*-b", 2);
        fault(0, "(a", 2);
        fault(0, "(a+", 3);
        fault(0, "(a+b)*(f", 8);
        fault(0, "a)", 1);
        fault(0, "(a))", 3);
        fault(0, "()", 1);
        fault(0, "(a)b", 3);
        fault(0, "(a)(b)", 3);
        fault(0, "!", 1);
        fault(0, "!a", -1);
        fault(0, "a!", 1);
        fault(0, "!*a", 1);
        fault(0, "a*!b", -1);
        fault(0, "a<!b", -1);
        fault(0, "A", 0);
        fault(0, "a;b", 1);
        fault(0, "1+2*3/4%5-6<7|8&9", -1);
        fault(0, "1+2+3+4+5+6+7+8+9+1+2+3+4+5+6+7+8+9+1+2+3+4+5+6+7+8+9+1+222", -1);
        fault(0, "1+2+3+4+5+6+7+8+9+1+2+3+4+5+6+7+8+9+1+2+3+4+5+6+7+8+9+1+2+3+", 60);
    }

    private static void openAtOnce() {
        fault(0, "!!!!!a", -1);
        fault(0, "!!!!!!a", 5);
        fault(0, "(((((a)))))", -1);
        fault(0, "((((((a))))))", 5);
        fault(0, "!(!(!a))", -1);
        fault(0, "!(!(!(a)))", 5);
        fault(0, "!(!(!!a))", 5);
        fault(0, "!!!!!a+!!!!!b", -1);
        fault(0, "(((((a)))))+(((((b)))))", -1);
        fault(0, "((((!a+!b))))", -1);
        fault(0, "((((!a+!!b))))", 8);
        fault(0, "!!!!(a)*!!!!!b", -1);
        fault(0, "!!!!!(a)", 5);
        fault(0, "(!!!!a)*!!!!!!b", 13);
    }

    private static void namesOfUses() {
        fault(0, "a+b+f", -1);
        fault(1, "t+s+d", -1);
        fault(0, "t", 0);
        fault(0, "s", 0);
        fault(0, "d", 0);
        fault(1, "a", 0);
        fault(1, "b", 0);
        fault(1, "f", 0);
        fault(1, "t+f", 2);
    }

    private static void replaced() {
        ParrotVow x = new ParrotVow();
        Due.text(x, 1, "7");
        Due.due("7", x.law(1, 0, 0, 0), 7);
        Due.text(x, 1, "8");
        Due.due("8 in place of 7", x.law(1, 0, 0, 0), 8);
        Due.due("a fault", Due.text(x, 1, "9+"), -12);
        Due.due("8 stays", x.law(1, 0, 0, 0), 8);
        Due.due("THE TAPE is empty", x.count(5), 0);
        Due.due("the empty TEXT", x.text(1), -10);
        Due.due("8 stays", x.law(1, 0, 0, 0), 8);
        Due.due("no ERROR", x.told(1) + x.told(2) + x.told(3), 0);
        Due.due("the other USE", x.law(0, 1, 0, 0), 1);
        for (int i = 0; i < 40; i++) {
            Due.due("t+s", Due.text(x, 1, "t+s"), 1);
        }
        Due.due("t+s after many", x.law(1, 30, 4, 0), 34);
        Due.refused("text(2)", Due::busy, y -> y.text(2), Due.BEYOND);
        Due.refused("text(-1)", Due::busy, y -> y.text(-1), Due.BEYOND);
        Due.feed(x, "5");
        Due.due("text(2) with a TAPE", x.text(2), Due.BEYOND);
        Due.due("THE TAPE stays", x.count(5), 1);
        Due.due("and is read", x.text(1), 1);
        Due.due("5", x.law(1, 0, 0, 0), 5);
    }

    private static void untell() {
        ParrotVow x = new ParrotVow();
        Due.due("untell(0)", x.untell(0), 0);
        Due.text(x, 0, "0");
        Due.text(x, 1, "5");
        Due.due("untell(0)", x.untell(0), 1);
        Due.due("law(0): a itself", x.law(0, 1, 0, 0), 1);
        Due.due("law(1): 5 still", x.law(1, 1, 0, 0), 5);
        Due.due("untell(1)", x.untell(1), 1);
        Due.due("law(1): t itself", x.law(1, 1, 0, 0), 1);
        Due.due("untell(1)", x.untell(1), 0);
        Due.refused("untell(2)", Due::busy, y -> y.untell(2), Due.BEYOND);
        Due.refused("untell(-1)", Due::busy, y -> y.untell(-1), Due.BEYOND);
    }

    private static void law() {
        ParrotVow x = new ParrotVow();
        Due.due("law(0, 5, 0, 0)", x.law(0, 5, 0, 0), 1);
        Due.due("law(0, -5, 0, 0)", x.law(0, -5, 0, 0), 0);
        Due.due("law(1, 100, 0, 0)", x.law(1, 100, 0, 0), 99);
        Due.due("law(1, -1, 0, 0)", x.law(1, -1, 0, 0), 0);
        Due.due("law(1, 50, 9, 9)", x.law(1, 50, 9, 9), 50);
        Due.text(x, 0, "b-f");
        Due.due("b-f", x.law(0, 9, 3, 2), 1);
        Due.due("b-f", x.law(0, 9, 2, 2), 0);
        Due.due("b-f held at 1", x.law(0, 9, 9, 2), 1);
        Due.due("b-f held at 0", x.law(0, 9, -9, 2), 0);
        Due.text(x, 1, "t*16+s*4+d");
        Due.due("t, s, d in order", x.law(1, 3, 2, 1), 57);
        Due.refused("law(2, 0, 0, 0)", Due::busy, y -> y.law(2, 0, 0, 0), Due.BEYOND);
        Due.refused("law(-1, 0, 0, 0)", Due::busy, y -> y.law(-1, 0, 0, 0), Due.BEYOND);
        Due.idle("law(1, 9, 9, 9)", Due::busy, y -> y.law(1, 9, 9, 9), 18);
    }

    private static void gives(String text, int t, int s, int d, int want) {
        ParrotVow x = new ParrotVow();
        Due.due(text, Due.text(x, 1, text), 1);
        Due.due(text + " with " + t + ", " + s + ", " + d, x.law(1, t, s, d), want);
    }

    private static void ranks() {
        gives("2+3*4", 0, 0, 0, 14);
        gives("(2+3)*4", 0, 0, 0, 20);
        gives("20-5-3", 0, 0, 0, 12);
        gives("60/5/3", 0, 0, 0, 4);
        gives("60/5*3", 0, 0, 0, 36);
        gives("17%5*3", 0, 0, 0, 6);
        gives("1<2", 0, 0, 0, 1);
        gives("2<2", 0, 0, 0, 0);
        gives("3>2", 0, 0, 0, 1);
        gives("2>2", 0, 0, 0, 0);
        gives("2=2", 0, 0, 0, 1);
        gives("2=3", 0, 0, 0, 0);
        gives("2+1=3", 0, 0, 0, 1);
        gives("1|0&0", 0, 0, 0, 1);
        gives("(1|0)&0", 0, 0, 0, 0);
        gives("5&7", 0, 0, 0, 1);
        gives("5&0", 0, 0, 0, 0);
        gives("5|0", 0, 0, 0, 1);
        gives("0|0", 0, 0, 0, 0);
        gives("5&7=1", 0, 0, 0, 0);
        gives("!5", 0, 0, 0, 0);
        gives("!0", 0, 0, 0, 1);
        gives("!!7", 0, 0, 0, 1);
        gives("!0+4", 0, 0, 0, 5);
        gives("!(0+4)", 0, 0, 0, 0);
        gives("7", 0, 0, 0, 7);
        gives("(7)", 0, 0, 0, 7);
        gives("0012", 0, 0, 0, 12);
        gives("9999/101", 0, 0, 0, 99);
        gives("1<2+t|s", -5, 0, 0, 0);
        gives("t&s", -1, -2, 0, 1);
    }

    private static void wraps() {
        int least = Integer.MIN_VALUE;
        gives("5/0", 0, 0, 0, 0);
        gives("5%0", 0, 0, 0, 0);
        gives("t/s+9", -7, 2, 0, 6);
        gives("t%s+9", -7, 2, 0, 8);
        gives("t%s", 7, -2, 0, 1);
        gives("t/s=t", least, -1, 0, 1);
        gives("t%s+3", least, -1, 0, 3);
        gives("t+1<t", Integer.MAX_VALUE, 0, 0, 1);
        gives("t-1>t", least, 0, 0, 1);
        gives("t*t", 65536, 0, 0, 0);
        gives("t*s=d", 2147483647, 2, -2, 1);
        gives("t/s*0+7", 1, 0, 0, 7);
    }
}
