/** Section 1 at its edges: which VOW a SAYING BREAKS, from where on a KIND SHUNS it, what each TELLS. */
final class ShunsTest {
    public static void main(String[] args) {
        everyVow();
        everySign();
        brother();
        tuesday();
        careful();
        bold();
        mute();
        cougher();
        lay();
        noneFits();
        marks();
        halves();
        restsOfSaying();
        lessOne();
        restsOfDay();
        heldAvoids();
        heldTalk();
        Due.end();
    }

    /** Whether all marks of s are as the figures of the VOW tell, figure by figure. */
    private static boolean breaks(int s, int vow) {
        boolean so = true;
        for (int k = 0, left = vow; k < 6; k++, left /= 3) {
            so &= left % 3 == 2 || left % 3 == (s >> k) % 2;
        }
        return so;
    }

    private static void everyVow() {
        for (int vow = 0; vow < 729; vow++) {
            ParrotVow x = new ParrotVow();
            x.brother(0);
            Due.text(x, 0, "0");
            x.vow(vow);
            for (int s = 0; s < 64; s++) {
                Due.due("VOW " + vow + ", say(0, " + s + ")", x.say(0, s), breaks(s, vow) ? 1 : 0);
            }
        }
    }

    /** 64 of the 729 VOWS are broken by any one SAYING. */
    private static void everySign() {
        ParrotVow x = new ParrotVow();
        for (int s = 0; s < 64; s++) {
            Due.due("sign(" + s + ", 1) alone", x.sign(s, 1), 64);
            Due.due("odds(" + s + ", 1) where it was FELT", x.odds(s, 1), 1);
            x.forget(1);
            Due.due("sign(" + s + ", 0) alone", x.sign(s, 0), 665);
            Due.due("odds(" + s + ", 1) where it was not", x.odds(s, 0), 0);
            Due.due("forget(1)", x.forget(1), 729);
        }
    }

    /** A BROTHER of km, and SIGNS, each 100 for FELT and its SAYING; F is checked, and B by a TEXT. */
    private static void shuns(int km, int saying, int b, int f, int want, int... signs) {
        String call = "km " + km + " avoids(0, " + saying + ") with B " + b + ", F " + f;
        ParrotVow x = withSigns(km, signs);
        Due.due(call + ": F", x.vows(0), f);
        Due.due(call, x.avoids(0, saying), want);
        Due.text(x, 0, "b=" + b + "&f=" + f);
        Due.due(call + ": B", x.avoids(0, saying), 1);
    }

    private static ParrotVow withSigns(int km, int... signs) {
        ParrotVow x = new ParrotVow();
        x.brother(km);
        x.day(2);
        for (int sign : signs) {
            x.sign(sign % 100, sign / 100);
        }
        return x;
    }

    private static void brother() {
        asBrother(0);
    }

    private static void tuesday() {
        asBrother(30);
        int[] days = {0, 1, 2, 3, 8, 9, 10, 9997, 9998, 9999};
        int[] wants = {0, 0, 1, 0, 0, 1, 0, 0, 1, 0};
        ParrotVow x = withSigns(30, 105);
        for (int i = 0; i < days.length; i++) {
            x.day(days[i]);
            Due.due("TUESDAY on DAY " + days[i], x.avoids(0, 5), wants[i]);
            Due.due("TUESDAY: what breaks nothing, on DAY " + days[i], withSigns(30, 5).avoids(0, 5), 0);
        }
    }

    /** Ten times B one above m times F, as much, one below; m from 0 to 9. */
    private static void asBrother(int kind) {
        shuns(kind + 1, 9, 6, 59, 1, 144, 17, 22);
        shuns(kind + 1, 7, 6, 60, 0, 151, 0);
        shuns(kind + 1, 3, 3, 31, 0, 132, 23, 40);
        shuns(kind + 3, 1, 1, 3, 1, 134, 61, 120);
        shuns(kind + 3, 41, 12, 40, 0, 143, 57, 50, 37);
        shuns(kind + 3, 8, 5, 17, 0, 140, 16, 30, 156, 61);
        shuns(kind + 2, 3, 12, 60, 0, 151, 0);
        shuns(kind + 4, 44, 16, 40, 0, 146, 43, 40);
        shuns(kind + 5, 0, 32, 64, 0, 101);
        shuns(kind + 4, 0, 32, 64, 1, 101);
        shuns(kind, 40, 1, 64, 1, 123);
        shuns(kind, 2, 0, 665, 0, 2);
        shuns(kind + 9, 5, 64, 64, 1, 105);
        shuns(kind + 9, 0, 1, 1, 1, 150, 113);
        shuns(kind + 9, 16, 1, 2, 0, 138, 109);
        shuns(kind, 0, 64, 729, 1);
        shuns(kind + 1, 63, 64, 729, 0);
    }

    private static void careful() {
        for (int m = 0; m <= 9; m += 9) {
            shuns(10 + m, 40, 1, 64, 1, 123);
            shuns(10 + m, 40, 0, 63, 0, 123, 40);
            shuns(10 + m, 7, 64, 729, 1);
        }
    }

    private static void bold() {
        for (int m = 0; m <= 9; m += 9) {
            shuns(20 + m, 0, 32, 64, 0, 101);
            shuns(20 + m, 17, 31, 63, 0, 149, 14);
            shuns(20 + m, 0, 1, 1, 1, 150, 113);
            shuns(20 + m, 16, 1, 2, 0, 138, 109);
            shuns(20 + m, 1, 64, 64, 1, 101);
            shuns(20 + m, 2, 0, 665, 0, 2);
        }
    }

    private static void mute() {
        shuns(40, 23, 0, 665, 0, 23);
        shuns(40, 24, 0, 665, 1, 24);
        shuns(41, 24, 0, 665, 0, 24);
        shuns(49, 63, 0, 665, 1, 63);
        shuns(48, 63, 0, 665, 0, 63);
        shuns(49, 0, 0, 665, 0, 0);
        shuns(48, 0, 0, 665, 1, 0);
        shuns(41, 40, 1, 64, 1, 123);
        shuns(40, 40, 1, 64, 1, 123);
    }

    private static void cougher() {
        for (int m = 0; m <= 9; m += 9) {
            shuns(50 + m, 1, 64, 64, 1, 101);
            shuns(50 + m, 0, 32, 64, 0, 101);
            shuns(50 + m, 16, 1, 2, 0, 138, 109);
            shuns(50 + m, 0, 1, 1, 1, 150, 113);
            shuns(50 + m, 3, 64, 729, 0);
            shuns(50 + m, 2, 0, 665, 0, 2);
        }
    }

    private static void lay() {
        for (int m = 0; m <= 9; m++) {
            ParrotVow x = withSigns(60 + m, 105);
            for (int s = 0; s < 64; s++) {
                Due.due("LAY " + m + " avoids(0, " + s + ")", x.avoids(0, s), s == m ? 1 : 0);
            }
            Due.due("LAY " + m + ": how many he AVOIDS", x.brotherIs(0, 3), 1);
        }
    }

    /** Where no VOW FITS, B and F are 0: nothing is above, and BOLD asks to be above, too. */
    private static void noneFits() {
        int[] many = {0, 0, 0, 0, 32, 0, 1};
        for (int kind = 0; kind <= 6; kind++) {
            for (int m = 0; m <= 9; m++) {
                ParrotVow x = withSigns(10 * kind + m, 105, 5);
                Due.due("none FITS, km " + (10 * kind + m), x.brotherIs(0, 3), many[kind]);
            }
        }
    }

    private static void tells(int km, int day, int saying, int want) {
        ParrotVow x = new ParrotVow();
        x.brother(km);
        x.day(day);
        Due.due("km " + km + " on DAY " + day + " talk(0, " + saying + ")", x.talk(0, saying), Math.max(0, want));
        Due.text(x, 1, "t+9");
        Due.due("km " + km + " on DAY " + day + " talk(0, " + saying + ") and 9", x.talk(0, saying), want + 9);
    }

    private static void marks() {
        int[] sayings = {0, 1, 2, 4, 8, 16, 32, 31, 62, 63};
        int[] wants = {0, 1, 1, 1, 1, 1, 1, 5, 5, 6};
        for (int i = 0; i < sayings.length; i++) {
            for (int m = 0; m <= 9; m++) {
                tells(m, 5, sayings[i], wants[i] + m);
                tells(30 + m, 5, sayings[i], wants[i] + m);
                tells(40 + m, 5, sayings[i], 0);
            }
        }
    }

    private static void halves() {
        tells(10, 0, 0, 0);
        tells(10, 0, 32, 0);
        tells(11, 0, 0, 0);
        tells(11, 0, 32, 1);
        tells(12, 0, 32, 1);
        tells(19, 0, 31, 7);
        tells(19, 0, 63, 7);
        tells(18, 0, 63, 7);
        tells(17, 0, 63, 6);
    }

    private static void restsOfSaying() {
        int[] sayings = {0, 4, 5, 9, 10, 59, 60, 63};
        int[] wants = {0, 1 + 4, 2, 2 + 4, 2, 5 + 4, 4, 6 + 3};
        for (int i = 0; i < sayings.length; i++) {
            tells(20, 2, sayings[i], wants[i]);
            tells(29, 2, sayings[i], wants[i] + 9);
            tells(50, 2, sayings[i], wants[i] - 1);
            tells(59, 2, sayings[i], wants[i] + 8);
        }
    }

    private static void lessOne() {
        tells(50, 0, 0, -1);
        tells(51, 0, 0, 0);
        tells(50, 0, 32, 1 + 2 - 1);
    }

    private static void restsOfDay() {
        int[] days = {0, 1, 2, 3, 4, 5, 9997, 9998, 9999};
        for (int day : days) {
            tells(60, day, 0, day % 3);
            tells(69, day, 63, 6 + 9 + day % 3);
            ParrotVow x = new ParrotVow();
            x.brother(60);
            x.day(day);
            Due.text(x, 1, "d");
            Due.due("d on DAY " + day, x.talk(0, 63), day % 7);
        }
        ParrotVow x = new ParrotVow();
        x.brother(0);
        Due.text(x, 1, "d");
        for (int day = 6; day <= 8; day++) {
            x.day(day);
            Due.due("d on DAY " + day, x.talk(0, 0), day == 6 ? 6 : day - 7);
        }
    }

    private static void heldAvoids() {
        String[] texts = {"0", "1", "2", "9999", "0-1", "0-9999", "a", "f", "b", "f-728", "f-729", "b-63", "b-64", "b-65"};
        int[] wants = {0, 1, 1, 1, 0, 0, 0, 1, 1, 1, 0, 1, 0, 0};
        ParrotVow x = new ParrotVow();
        x.brother(69);
        for (int i = 0; i < texts.length; i++) {
            Due.due("text(0) of " + texts[i], Due.text(x, 0, texts[i]), 1);
            Due.due("AVOIDS by " + texts[i], x.avoids(0, 63), wants[i]);
            Due.due("how many by " + texts[i], x.brotherIs(0, 3), texts[i].equals("a") ? 1 : 64 * wants[i]);
            Due.due("say by " + texts[i], x.say(0, 63), wants[i] == 1 ? Due.STATE : 1);
            x.forget(x.count(1));
        }
        x.untell(0);
        int[] freely = {Integer.MIN_VALUE, -1, 0, 1, 2, Integer.MAX_VALUE};
        int[] held = {0, 0, 0, 1, 1, 1};
        for (int i = 0; i < freely.length; i++) {
            Due.due("law(0, " + freely[i] + ", ..) without a TEXT", x.law(0, freely[i], 7, 7), held[i]);
        }
        Due.text(x, 0, "a");
        for (int i = 0; i < freely.length; i++) {
            Due.due("law(0, " + freely[i] + ", ..) with the TEXT a", x.law(0, freely[i], 7, 7), held[i]);
        }
    }

    private static void heldTalk() {
        ParrotVow x = new ParrotVow();
        int[] freely = {Integer.MIN_VALUE, -1, 0, 1, 98, 99, 100, Integer.MAX_VALUE};
        int[] held = {0, 0, 0, 1, 98, 99, 99, 99};
        for (int i = 0; i < freely.length; i++) {
            Due.due("law(1, " + freely[i] + ", ..) without a TEXT", x.law(1, freely[i], 7, 7), held[i]);
        }
        Due.text(x, 1, "t");
        for (int i = 0; i < freely.length; i++) {
            Due.due("law(1, " + freely[i] + ", ..) with the TEXT t", x.law(1, freely[i], 7, 7), held[i]);
        }
        x.brother(69);
        String[] texts = {"s+35", "s+36", "s+37", "s-63", "s-64", "9999"};
        int[] wants = {98, 99, 99, 0, 0, 99};
        for (int i = 0; i < texts.length; i++) {
            Due.text(x, 1, texts[i]);
            Due.due("TALK by " + texts[i], x.talk(0, 63), wants[i]);
            int worth = x.count(3);
            x.say(0, 63);
            Due.due("WORTH by " + texts[i], x.count(3), worth + wants[i]);
        }
    }
}
