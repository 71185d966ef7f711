/** Section 2 at its edges: each byte in each place, 1 to 4 digits, 5 open at once, ints that wrap, FAULTS. */
final class GrammarTest {
    private static final String STARTS = "0123456789!(";
    private static final String GOES_ON = "|&<=>+-*/%";

    public static void main(String[] args) {
        everyByte();
        digits();
        shortTexts();
        openTexts();
        fiveOpen();
        oneComparison();
        manyOperators();
        quotients();
        rests();
        wraps();
        truths();
        allIsWorkedOut();
        faultsKeepWhatWas();
        Due.end();
    }

    private static final class Counted {
        private ParrotVow x = new ParrotVow();
        private int calls = 0;

        /** An object is used for at most 512 calls. */
        ParrotVow next(int more) {
            calls += more;
            if (calls > 500) {
                x = new ParrotVow();
                calls = more;
            }
            return x;
        }
    }

    private static final Counted ONE = new Counted();

    private static void fault(int use, String text, int fault) {
        ParrotVow x = ONE.next(text.length() / 8 + 3);
        for (int from = 0; from < text.length(); from += 8) {
            long word = 0L;
            int n = Math.min(8, text.length() - from);
            for (int i = 0; i < n; i++) {
                word |= (long) text.charAt(from + i) << (8 * i);
            }
            x.feed(word, n);
        }
        Due.due("text(" + use + ") of " + text, x.text(use), fault < 0 ? 1 : -10 - fault);
        Due.due("count(5) behind " + text, x.count(5), 0);
    }

    private static void everyByte() {
        for (int use = 0; use <= 1; use++) {
            String names = use == 0 ? "abf" : "tsd";
            String a = names.substring(0, 1);
            for (int b = 0; b <= 255; b++) {
                char c = (char) b;
                boolean digit = c >= '0' && c <= '9';
                boolean leaf = digit || names.indexOf(c) >= 0;
                int alone = leaf ? -1 : STARTS.indexOf(c) >= 0 ? 1 : 0;
                fault(use, "" + c, alone);
                fault(use, a + "+" + c, alone < 0 ? -1 : alone + 2);
                fault(use, "!" + c, alone < 0 ? -1 : alone + 1);
                fault(use, "(" + c + ")", alone < 0 ? -1 : alone + 1);
                int behind = GOES_ON.indexOf(c) >= 0 ? 2 : 1;
                fault(use, a + c, behind);
                fault(use, "7" + c, digit ? -1 : behind);
                fault(use, "1234" + c, behind + 3);
                fault(use, "(7)" + c, behind + 2);
                fault(use, a + c + a, behind == 2 ? -1 : 1);
                fault(use, "(" + a + c, c == ')' ? -1 : GOES_ON.indexOf(c) >= 0 ? 3 : 2);
            }
        }
    }

    private static void digits() {
        fault(1, "0", -1);
        fault(1, "9999", -1);
        fault(1, "0000", -1);
        fault(1, "00000", 4);
        fault(1, "10000", 4);
        fault(1, "t+9999", -1);
        fault(1, "t+10000", 6);
        fault(1, "12345+6", 4);
        fault(1, "1234(5)", 4);
        fault(1, "1234 5", 4);
        gives("9999-9998", 0, 0, 0, 1);
        gives("9999-9989", 0, 0, 0, 10);
        gives("0099", 0, 0, 0, 99);
        gives("0009+0010", 0, 0, 0, 19);
        gives("9999*9999=t", 99980001, 0, 0, 1);
    }

    /** All of up to four bytes from those that are something in a TEXT, and two that aren't, against the Model. */
    private static void shortTexts() {
        String bytes = "at09!()+*<|& :";
        for (int n = 0; n <= 4; n++) {
            texts("", n, bytes);
        }
    }

    /** All of up to eight bytes from these four. */
    private static void openTexts() {
        for (int n = 5; n <= 8; n++) {
            texts("", n, "a!()");
        }
    }

    private static void texts(String sofar, int more, String bytes) {
        if (more == 0) {
            fault(0, sofar, Model.fault(sofar, "abf"));
            return;
        }
        for (int i = 0; i < bytes.length(); i++) {
            texts(sofar + bytes.charAt(i), more - 1, bytes);
        }
    }

    /** Any five of ! and (, one within the other, are a TEXT's; a sixth is where none goes on. */
    private static void fiveOpen() {
        for (int mask = 0; mask < 64; mask++) {
            StringBuilder open = new StringBuilder();
            StringBuilder close = new StringBuilder();
            for (int i = 0; i < 6; i++) {
                boolean bracket = (mask >> i & 1) == 1;
                open.append(bracket ? '(' : '!');
                close.append(bracket ? ")" : "");
                if (i == 4) {
                    fault(0, open + "a" + close, -1);
                    fault(0, open + "a" + close + "*" + open + "a" + close, -1);
                    fault(0, open.toString(), 5);
                }
            }
            fault(0, open + "a" + close, 5);
            fault(0, "a+" + open + "a" + close, 7);
        }
    }

    private static void oneComparison() {
        for (char first : "<=>".toCharArray()) {
            for (char second : "<=>".toCharArray()) {
                fault(0, "a" + first + "b", -1);
                fault(0, "a" + first + "b" + second + "f", 3);
                fault(0, "a" + first + second + "b", 2);
                fault(0, "a" + first + "(b" + second + "f)", -1);
                fault(0, "(a" + first + "b)" + second + "f", -1);
                fault(0, "(a" + first + "b" + second + "f)", 4);
                fault(0, "a" + first + "b&a" + second + "f", -1);
                fault(0, "a" + first + "b|a" + second + "f", -1);
                fault(0, "a" + first + "b+a" + second + "f", 5);
                fault(0, "a" + first + "!b" + second + "f", 4);
            }
        }
    }

    /** As many operators of one rank as 59 bytes hold, and one more that then ends too early. */
    private static void manyOperators() {
        for (char c : "|&+-*/%".toCharArray()) {
            StringBuilder text = new StringBuilder("1");
            for (int i = 0; i < 29; i++) {
                text.append(c).append('1');
            }
            fault(0, text.toString(), -1);
            fault(0, text.toString() + c, 60);
            fault(0, text.toString() + "1", -1);
            fault(0, text.toString() + ")", 59);
        }
        gives("9-1-1-1-1", 0, 0, 0, 5);
        gives("9-(1-1)", 0, 0, 0, 9);
        gives("64/2/2/2", 0, 0, 0, 8);
        gives("64/(2/2)", 0, 0, 0, 64);
        gives("29%10%4", 0, 0, 0, 1);
        gives("29%(10%4)", 0, 0, 0, 1);
        gives("28%(10%4)", 0, 0, 0, 0);
        gives("2*3%4*5", 0, 0, 0, 10);
        gives("2-3+4", 0, 0, 0, 3);
    }

    private static void gives(String text, int t, int s, int d, int want) {
        ParrotVow x = ONE.next(text.length() + 2);
        Due.due(text, Due.text(x, 1, text), 1);
        Due.due(text + " with " + t + ", " + s + ", " + d, x.law(1, t, s, d), want);
    }

    /** The TEXT is just d, which may be more than TALK's 99 or below 0. */
    private static void is(String text, int t, int s, int d) {
        gives("(" + text + ")=d", t, s, d, 1);
    }

    private static void quotients() {
        int[][] all = {{7, 2, 3}, {-7, 2, -3}, {7, -2, -3}, {-7, -2, 3}, {1, 2, 0}, {-1, 2, 0}, {2, 2, 1}, {-2, 2, -1},
            {0, 5, 0}, {0, -5, 0}, {7, 0, 0}, {-7, 0, 0}, {0, 0, 0}, {Integer.MIN_VALUE, -1, Integer.MIN_VALUE},
            {Integer.MIN_VALUE, 1, Integer.MIN_VALUE}, {Integer.MAX_VALUE, -1, -Integer.MAX_VALUE},
            {Integer.MIN_VALUE, Integer.MIN_VALUE, 1}, {Integer.MAX_VALUE, Integer.MIN_VALUE, 0},
            {Integer.MIN_VALUE, Integer.MAX_VALUE, -1}, {Integer.MIN_VALUE, 0, 0}};
        for (int[] one : all) {
            is("t/s", one[0], one[1], one[2]);
            gives("t/s+5-d", one[0], one[1], one[2], 5);
        }
    }

    private static void rests() {
        int[][] all = {{7, 2, 1}, {-7, 2, -1}, {7, -2, 1}, {-7, -2, -1}, {1, 2, 1}, {-1, 2, -1}, {2, 2, 0}, {-2, 2, 0},
            {0, 5, 0}, {7, 0, 0}, {-7, 0, 0}, {0, 0, 0}, {Integer.MIN_VALUE, -1, 0}, {Integer.MIN_VALUE, 0, 0},
            {Integer.MAX_VALUE, Integer.MIN_VALUE, Integer.MAX_VALUE}, {Integer.MIN_VALUE, Integer.MAX_VALUE, -1},
            {Integer.MIN_VALUE, Integer.MIN_VALUE, 0}};
        for (int[] one : all) {
            is("t%s", one[0], one[1], one[2]);
            gives("t%s+5-d", one[0], one[1], one[2], 5);
        }
    }

    private static void wraps() {
        int most = Integer.MAX_VALUE;
        int least = Integer.MIN_VALUE;
        int[][] sums = {{most, 1, least}, {most, most, -2}, {least, -1, most}, {least, least, 0}, {most, least, -1}};
        for (int[] one : sums) {
            is("t+s", one[0], one[1], one[2]);
        }
        int[][] differences = {{least, 1, most}, {0, least, least}, {most, -1, least}, {-2, most, most}, {-1, least, most}};
        for (int[] one : differences) {
            is("t-s", one[0], one[1], one[2]);
        }
        int[][] products = {{most, 2, -2}, {most, most, 1}, {least, -1, least}, {least, 2, 0}, {65536, 65536, 0},
            {46341, 46341, -2147479015}, {46340, 46340, 2147395600}};
        for (int[] one : products) {
            is("t*s", one[0], one[1], one[2]);
        }
        gives("t<s", least, most, 0, 1);
        gives("t>s", least, most, 0, 0);
        gives("t<s", most, least, 0, 0);
        gives("t>s", most, least, 0, 1);
        gives("t=s", least, least, 0, 1);
        gives("t=s", least, most, 0, 0);
        gives("t<s", -1, 0, 0, 1);
        gives("9999*9999*9999*9999=t", (int) (9999L * 9999L * 9999L * 9999L), 0, 0, 1);
    }

    private static void truths() {
        int[] some = {0, 1, 2, -1, Integer.MIN_VALUE, Integer.MAX_VALUE, 256, 65536};
        for (int t : some) {
            gives("!t", t, 0, 0, t == 0 ? 1 : 0);
            gives("!!t", t, 0, 0, t == 0 ? 0 : 1);
            for (int s : some) {
                gives("t|s", t, s, 0, t == 0 && s == 0 ? 0 : 1);
                gives("t&s", t, s, 0, t == 0 || s == 0 ? 0 : 1);
                gives("7*(t|s)", t, s, 0, t == 0 && s == 0 ? 0 : 7);
                gives("7*(t&s)", t, s, 0, t == 0 || s == 0 ? 0 : 7);
            }
        }
        for (int t = -1; t <= 1; t++) {
            gives("7*(t<0)", t, 0, 0, t < 0 ? 7 : 0);
            gives("7*(t=0)", t, 0, 0, t == 0 ? 7 : 0);
            gives("7*(t>0)", t, 0, 0, t > 0 ? 7 : 0);
        }
    }

    /** By 0 is 0, also where the other side has settled it. */
    private static void allIsWorkedOut() {
        gives("0&(1/0)", 0, 0, 0, 0);
        gives("1|(1%0)", 0, 0, 0, 1);
        gives("0|(1/0)|3", 0, 0, 0, 1);
        gives("1&(5/0=0)", 0, 0, 0, 1);
        gives("1&(5%0=0)", 0, 0, 0, 1);
        gives("5/0*9+5%0*9+4", 0, 0, 0, 4);
    }

    private static void faultsKeepWhatWas() {
        for (int use = 0; use <= 1; use++) {
            ParrotVow x = Due.busy();
            x.text(use);
            Due.text(x, use, use == 0 ? "b>1" : "s*3");
            for (String text : new String[] {"", "1+", "(", "x", "12345", "!!!!!!1"}) {
                Due.due("a FAULT in " + text, Due.text(x, use, text) < -9 ? 1 : 0, 1);
                Due.due("THE TAPE is empty", x.count(5), 0);
                Due.due("the one ahead stays", x.law(use, 0, 2, 5), use == 0 ? 1 : 6);
            }
            Due.due("no ERROR was counted", x.told(1) + x.told(2) + x.told(3) + x.told(4) + x.told(5) + x.told(6), 0);
            Due.due("the other's stays", x.law(1 - use, 3, 2, 5), Due.busy().law(1 - use, 3, 2, 5));
            Due.due("untell(" + use + ")", x.untell(use), 1);
            Due.due("untell(" + use + ") again", x.untell(use), 0);
        }
    }
}
