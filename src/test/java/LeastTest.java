/** Section 3 at its edges: of several the least, none at all, all at once; and what SHEETS' numbers can be. */
final class LeastTest {
    public static void main(String[] args) {
        simplestOfSeveral();
        oneVowLeft();
        noVowLeft();
        partsOfSeveral();
        sureLeast();
        unsaidAll();
        unsaidByOne();
        freestOfSeveral();
        freestNothing();
        freestCounts();
        lowestTerms();
        fitsTables();
        lowestBits();
        judged();
        checked();
        Due.end();
    }

    private static ParrotVow withSigns(int... signs) {
        ParrotVow x = new ParrotVow();
        for (int sign : signs) {
            x.sign(sign % 100, sign / 100);
        }
        return x;
    }

    private static void vows(ParrotVow x, String when, int... wants) {
        for (int what = 0; what < wants.length; what++) {
            Due.due(when + ": vows(" + what + ")", x.vows(what), wants[what]);
        }
    }

    /** One figure other than 2 for each mark by which a SAYING, not FELT, differs: of those the least VOW. */
    private static void simplestOfSeveral() {
        for (int s = 0; s < 64; s++) {
            int least = Integer.MAX_VALUE;
            for (int k = 0, third = 1; k < 6; k++, third *= 3) {
                least = Math.min(least, 728 - third * (2 - (s >> k & 1)));
            }
            ParrotVow x = withSigns(100 + s, 63 - s);
            Due.due("SIMPLEST after " + s, x.vows(2), least);
            Due.due("how many figures of it", x.vows(3), 1);
            Due.due("SIMPLEST of all that " + s + " BREAKS", withSigns(100 + s).vows(2), 728);
            ParrotVow y = withSigns(s);
            int other = Integer.MAX_VALUE;
            for (int k = 0, third = 1; k < 6; k++, third *= 3) {
                other = Math.min(other, 728 - third * (1 + (s >> k & 1)));
            }
            Due.due("SIMPLEST of those that " + s + " doesn't BREAK", y.vows(2), other);
            Due.due("the least of those", y.vows(1), s == 0 ? 1 : 0);
        }
    }

    private static void oneVowLeft() {
        vows(withSigns(105, 158), "5 and 58 are FELT", 1, 728, 728, 0);
        vows(withSigns(100, 1, 2, 4, 8, 16, 32), "0 alone", 1, 0, 0, 6);
        vows(withSigns(163, 62, 61, 59, 55, 47, 31), "63 alone", 1, 364, 364, 6);
        vows(withSigns(163, 132, 62, 61, 59, 55, 47), "32 and 63", 0);
        vows(withSigns(163, 132, 31), "mark 5 alone", 1, 728 - 243, 728 - 243, 1);
    }

    private static void noVowLeft() {
        ParrotVow x = withSigns(105, 5);
        vows(x, "none FITS", 0, Due.NONE, Due.NONE, Due.NONE);
        Due.due("parts(0)", x.parts(0), 0);
        Due.due("parts(1)", x.parts(1), 0);
        for (int s = 0; s < 64; s++) {
            Due.due("sure(" + s + ") is that itself", x.sure(s), s);
            Due.due("odds(" + s + ", 0)", x.odds(s, 0), Due.STATE);
            Due.due("odds(" + s + ", 1)", x.odds(s, 1), Due.STATE);
        }
        Due.due("told(3)", x.told(3), 128);
        Due.due("forget(1)", x.forget(1), 64);
        Due.due("odds(5, 1)", x.odds(5, 1), 1);
    }

    private static void partsOfSeveral() {
        Due.due("parts(0) of all alike", new ParrotVow().parts(0), 0);
        Due.due("parts(0) after 0", withSigns(100).parts(0), 1);
        Due.due("parts(0) after 63", withSigns(163).parts(0), 31);
        Due.due("parts(1) after 63", withSigns(163).parts(1), 32);
        Due.due("parts(0) after 0 not FELT", withSigns(0).parts(0), 63);
        Due.due("parts(1) after 0 not FELT", withSigns(0).parts(1), 63);
        Due.due("parts(0) of one VOW", withSigns(105, 158).parts(0), 0);
        Due.due("parts(1) of one VOW", withSigns(105, 158).parts(1), 0);
        Due.due("parts(0): B above half of F", withSigns(100, 63).parts(0), 1);
        Due.due("parts(1): B above half of F", withSigns(100, 63).parts(1), 31);
    }

    private static void sureLeast() {
        ParrotVow x = withSigns(63);
        for (int s = 0; s < 64; s++) {
            Due.due("sure(" + s + ") where 63 alone is sure", x.sure(s), 63);
        }
        ParrotVow y = withSigns(0);
        Due.due("sure(0) where 0 alone is sure", y.sure(0), 0);
        for (int s = 1; s < 64; s++) {
            Due.due("sure(" + s + ") where 0 alone is sure", y.sure(s), Due.NONE);
        }
        ParrotVow z = withSigns(40, 42, 62);
        Due.due("sure(8)", z.sure(8), 40);
        Due.due("sure(2)", z.sure(2), 42);
        Due.due("sure(42)", z.sure(42), 42);
        Due.due("sure(43)", z.sure(43), Due.NONE);
        Due.due("sure(4)", z.sure(4), 62);
        Due.due("sure(1)", z.sure(1), Due.NONE);
    }

    private static void unsaid(ParrotVow x, String when, long set, int many) {
        Due.due(when + ": unsaid(0)", x.unsaid(0), set);
        Due.due(when + ": unsaid(1)", x.unsaid(1), many);
    }

    private static void unsaidAll() {
        ParrotVow x = new ParrotVow();
        Due.text(x, 0, "1");
        unsaid(x, "no BROTHERS, though all would be AVOIDED", 0L, 0);
        for (int i = 0; i < 6; i++) {
            x.brother(60 + i);
            unsaid(x, "all AVOID all", -1L, 64);
            Due.due("brotherIs(" + i + ", 3)", x.brotherIs(i, 3), 64);
        }
        Due.text(x, 0, "0");
        unsaid(x, "none AVOIDS any", 0L, 0);
        Due.due("brotherIs(5, 3)", x.brotherIs(5, 3), 0);
        Due.due("no ERROR", x.told(1) + x.told(2) + x.told(3), 0);
    }

    /** Of CAREFUL ones, what one SIGN of 64 has made sure is left out, the first and the last, too. */
    private static void unsaidByOne() {
        for (int s = 0; s < 64; s++) {
            ParrotVow x = withSigns(s);
            x.brother(10);
            x.brother(19);
            unsaid(x, "CAREFUL, " + s + " is sure", ~(1L << s), 63);
        }
        for (int m = 0; m <= 9; m++) {
            ParrotVow x = withSigns(105);
            x.brother(60 + m);
            unsaid(x, "LAY " + m, 1L << m, 1);
            x.brother(60 + (m + 1) % 10);
            unsaid(x, "LAY " + m + " and another", 0L, 0);
        }
        ParrotVow x = withSigns(163);
        x.brother(20);
        unsaid(x, "BOLD, 63 was FELT", Long.MIN_VALUE, 1);
        ParrotVow y = withSigns(100);
        y.brother(20);
        unsaid(y, "BOLD, 0 was FELT", 1L, 1);
    }

    /** SURE are 0 and 63: TALK of both together. */
    private static void freestOfSeveral() {
        ParrotVow x = withSigns(0, 63);
        for (int i = 0; i < 6; i++) {
            x.brother(3);
        }
        Due.due("freest(0) of six alike", x.freest(0), 0);
        Due.due("freest(1) of six alike", x.freest(1), 3 + 9);
        for (int i = 5; i > 0; i--) {
            x.become(i, 4);
            Due.due("freest(0), " + i + " being freer", x.freest(0), i);
            Due.due("freest(1), " + i + " being freer", x.freest(1), 4 + 10);
        }
        x.become(0, 4);
        Due.due("freest(0) of six alike again", x.freest(0), 0);
        x.become(3, 5);
        x.become(5, 5);
        Due.due("freest(0) of two alike", x.freest(0), 3);
    }

    private static void freestNothing() {
        ParrotVow x = new ParrotVow();
        for (int i = 0; i < 6; i++) {
            x.brother(9);
        }
        Due.due("nothing is sure: freest(0)", x.freest(0), 0);
        Due.due("nothing is sure: freest(1)", x.freest(1), 0);
        ParrotVow y = withSigns(7);
        y.brother(67);
        Due.due("he AVOIDS all that is sure: freest(0)", y.freest(0), 0);
        Due.due("he AVOIDS all that is sure: freest(1)", y.freest(1), 0);
        y.brother(60);
        Due.due("the other doesn't: freest(0)", y.freest(0), 1);
        Due.due("the other doesn't: freest(1)", y.freest(1), 3);
        Due.due("told(3)", y.told(3), 0);
    }

    private static void freestCounts() {
        ParrotVow x = withSigns(105, 5);
        x.brother(9);
        Due.due("none FITS, so all are sure: freest(1)", x.freest(1), 64 * 9 + 64 * 3);
        Due.text(x, 1, "99");
        Due.due("TALK 99 of all 64: freest(1)", x.freest(1), 64 * 99);
        Due.text(x, 1, "s=0");
        Due.due("TALK of 0 alone: freest(1)", x.freest(1), 1);
        Due.text(x, 1, "s=63");
        Due.due("TALK of 63 alone: freest(1)", x.freest(1), 1);
        x.become(0, 41);
        Due.due("MUTE 1 AVOIDS 63: freest(1)", x.freest(1), 0);
    }

    private static void odds(ParrotVow x, int saying, int above, int below) {
        Due.due("odds(" + saying + ", 0)", x.odds(saying, 0), above);
        Due.due("odds(" + saying + ", 1)", x.odds(saying, 1), below);
    }

    private static void lowestTerms() {
        odds(new ParrotVow(), 0, 64, 729);
        odds(withSigns(0), 0, 0, 1);
        odds(withSigns(0), 63, 9, 95);
        odds(withSigns(0), 1, 32, 665);
        odds(withSigns(163), 63, 1, 1);
        odds(withSigns(163), 0, 1, 64);
        odds(withSigns(163), 62, 1, 2);
        odds(withSigns(163, 0), 62, 31, 63);
        odds(withSigns(163, 0), 60, 5, 21);
        odds(withSigns(163, 0), 32, 1, 63);
        odds(withSigns(163, 0), 0, 0, 1);
        odds(withSigns(105, 158), 9, 1, 1);
    }

    private static void fits(ParrotVow x, String when, int many, int least) {
        Due.due(when + ": fits(0, 0)", x.fits(0, 0), many);
        Due.due(when + ": fits(0, 1)", x.fits(0, 1), least);
    }

    /**
     * Each bits: no numbers, one, 24; numbers that are neither 0 nor 1 are so of no VOW. SAYINGS 0 .. 23 are those
     * with nothing, mark 3 alone, or mark 4 alone of marks 3 to 5: 16 of 27 ways to tell of these are broken.
     */
    private static void fitsTables() {
        for (int bits = 8; bits <= 32; bits *= 2) {
            ParrotVow x = new ParrotVow();
            x.sheet(0, bits, 0);
            fits(x, "no numbers", 729, 0);
            x.sheet(0, bits, 1);
            fits(x, "0", 665, 1);
            x.put(0, 0, 1);
            fits(x, "1", 64, 0);
            for (int v : new int[] {2, 3, -1, -2, 128, 255, Integer.MIN_VALUE + 2, Integer.MAX_VALUE}) {
                x.put(0, 0, v);
                fits(x, "one of " + v, 0, Due.NONE);
            }
            Due.sheet(x, 0, bits, new int[24]);
            fits(x, "24 times 0", 11 * 27, 81 + 27);
        }
        ParrotVow x = new ParrotVow();
        Due.sheet(x, 0, 8, 1, 1, 1, 1, 1, 1, 1, 1, 1, 1, 1, 1, 1, 1, 1, 1, 1, 1, 1, 1, 1, 1, 1, 1);
        fits(x, "24 times 1", 2, 728 - 2 * 243);
        x.put(0, 23, 0);
        fits(x, "the last of 24 is 0", 0, Due.NONE);
        x.sign(1, 1);
        x.sign(1, 0);
        x.sheet(0, 8, 0);
        fits(x, "none FITS", 0, Due.NONE);
    }

    /** As a SAYING the number is seen by what signs() makes of it. */
    private static void lowestBits() {
        int[] some = {0, 1, 63, 64, 127, 128, 192, 255, 256, 257, 319, 320, 32768, 65535, 65536, 65599, 65600, 131072,
            1 << 24, -1, -192, -193, -256, -65536, -65473, Integer.MIN_VALUE, Integer.MIN_VALUE + 63, Integer.MAX_VALUE};
        for (int bits = 8; bits <= 32; bits *= 2) {
            for (int v : some) {
                long number = v & (1L << bits) - 1L;
                ParrotVow x = new ParrotVow();
                x.vow(728);
                x.sheet(2, bits, 24);
                Due.due("put(2, 23, " + v + ")", x.put(2, 23, v), 1);
                x.sheet(1, bits, 1);
                Due.due("move(2, 23, 1, 0, 1)", x.move(2, 23, 1, 0, 1), 1);
                Due.due(v + " of " + bits + " bits: signs(1)", x.signs(1), number < 64 ? 1 : 0);
                Due.due(v + " of " + bits + " bits: FITS", x.vows(0), number < 64 ? 64 : 729);
                if (number < 64) {
                    Due.due(v + " of " + bits + " bits: the SAYING", x.odds((int) number, 1), 1);
                    x.forget(1);
                }
                Due.due(v + " of " + bits + " bits: judge(1)", x.judge(1), number == 64 ? 1 : 0);
            }
        }
    }

    private static void judged() {
        ParrotVow x = withSigns(100);
        int[] right = new int[24];
        for (int s = 0; s < 24; s++) {
            right[s] = 64 >> Integer.bitCount(s);
        }
        Due.sheet(x, 3, 16, right);
        Due.due("judge(3), all 24 right", x.judge(3), 24);
        for (int i = 23; i >= 0; i--) {
            x.put(3, i, right[i] + (i % 2 == 0 ? 1 : -1));
            Due.due("judge(3), " + i + " wrong", x.judge(3), i);
        }
        x.sheet(3, 16, 0);
        Due.due("judge(3) of none", x.judge(3), 0);
    }

    private static void checked(int want, int... numbers) {
        ParrotVow x = new ParrotVow();
        for (int i = 0; i < 3; i++) {
            x.brother(60);
        }
        x.say(0, 1);
        x.say(2, 1);
        x.say(2, 1);
        for (int v : numbers) {
            x.tell(v);
        }
        Due.due("check() of " + numbers.length, x.check(), want);
        Due.due("none wait any more", x.count(6), 0);
    }

    private static void checked() {
        checked(0);
        checked(0, 1);
        checked(0, 1, 0);
        checked(0, 1, 0, 2);
        checked(4, 1, 0, 2, 0);
        checked(4, 1, 0, 2, 1, 1);
        checked(3, 1, 0, 1, 0);
        checked(2, 1, 1, 1);
        checked(1, 0, 1, 1);
        checked(1, 257, 0, 2);
        checked(1, 65537, 0, 2);
        checked(1, Integer.MIN_VALUE + 1, 0, 2);
        checked(3, 1, 0, Integer.MAX_VALUE);
    }
}
