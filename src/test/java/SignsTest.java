/** Promises 8 to 11: THE VOW, SIGNS, and what a BROTHER SAYS. */
final class SignsTest {
    public static void main(String[] args) {
        vow();
        sign();
        forget();
        say();
        sayHeld();
        saidAndUnheard();
        Due.end();
    }

    private static void vow() {
        ParrotVow x = new ParrotVow();
        Due.due("vow(0)", x.vow(0), 728);
        Due.due("vow(728)", x.vow(728), 0);
        Due.due("vow(485)", x.vow(485), 728);
        Due.due("count(4)", x.count(4), 485);
        Due.refused("vow(729)", Due::busy, y -> y.vow(729), Due.BEYOND);
        Due.refused("vow(-1)", Due::busy, y -> y.vow(-1), Due.BEYOND);
    }

    private static void sign() {
        ParrotVow x = new ParrotVow();
        Due.due("sign(5, 1)", x.sign(5, 1), 64);
        Due.due("sign(5, 1) again", x.sign(5, 1), 64);
        Due.due("sign(58, 0)", x.sign(58, 0), 63);
        Due.due("sign(4, 1)", x.sign(4, 1), 31);
        Due.due("sign(4, 0): against it", x.sign(4, 0), 0);
        Due.due("count(1)", x.count(1), 5);
        for (int i = 5; i < 24; i++) {
            x.sign(63, 0);
        }
        Due.due("count(1)", x.count(1), 24);
        Due.due("a SIGN too many", x.sign(0, 0), Due.FULL);
        Due.due("a wrong one too many", x.sign(64, 0), Due.BEYOND);
        Due.refused("sign(64, 0)", Due::busy, y -> y.sign(64, 0), Due.BEYOND);
        Due.refused("sign(-1, 0)", Due::busy, y -> y.sign(-1, 0), Due.BEYOND);
        Due.refused("sign(0, 2)", Due::busy, y -> y.sign(0, 2), Due.BEYOND);
        Due.refused("sign(0, -1)", Due::busy, y -> y.sign(0, -1), Due.BEYOND);
        Due.refused("sign(0, 0) too many", SignsTest::full, y -> y.sign(0, 0), Due.FULL);
    }

    private static ParrotVow full() {
        ParrotVow x = Due.busy();
        for (int i = x.count(1); i < 24; i++) {
            x.sign(63, 1);
        }
        return x;
    }

    private static void forget() {
        ParrotVow x = new ParrotVow();
        x.sign(5, 1);
        x.sign(4, 1);
        x.sign(4, 0);
        Due.due("forget(0)", x.forget(0), 0);
        Due.due("forget(1)", x.forget(1), 32);
        Due.due("count(1)", x.count(1), 2);
        Due.due("odds(5, 1)", x.odds(6, 1), 2);
        Due.due("forget(2)", x.forget(2), 729);
        Due.due("forget(0) of none", x.forget(0), 729);
        Due.due("forget(1) of none", x.forget(1), Due.BEYOND);
        Due.refused("forget(25)", Due::busy, y -> y.forget(25), Due.BEYOND);
        Due.refused("forget(-1)", Due::busy, y -> y.forget(-1), Due.BEYOND);
        Due.refused("forget(the least int)", Due::busy, y -> y.forget(Integer.MIN_VALUE), Due.BEYOND);
    }

    private static void say() {
        ParrotVow x = new ParrotVow();
        x.brother(65);
        x.vow(485);
        Due.due("say(0, 32): breaks 122222", x.say(0, 32), 1);
        Due.due("F", x.vows(0), 64);
        Due.due("say(0, 31): breaks nothing", x.say(0, 31), 0);
        Due.due("F", x.vows(0), 63);
        Due.due("SAID", x.brotherIs(0, 2), 2);
        Due.due("WORTH", x.count(3), 6 + 10);
        Due.due("SIGNS", x.count(1), 2);
        Due.due("DAY stays", x.count(2), 0);
        Due.due("z stays", x.count(8), 1);
        Due.due("say(0, 5): he AVOIDS it", x.say(0, 5), Due.STATE);
        x.vow(0);
        Due.due("say(0, 0): breaks 000000", x.say(0, 0), 1);
        x.vow(364);
        Due.due("say(0, 63): breaks 111111", x.say(0, 63), 1);
        Due.due("say(0, 62)", x.say(0, 62), 0);
        x.brother(60);
        x.say(1, 7);
        Due.due("SAID of the other", x.brotherIs(1, 2), 1);
        Due.due("SAID", x.brotherIs(0, 2), 5);
        Due.refused("say(0, 1)", Due::busy, y -> sayAvoided(y), Due.STATE);
        Due.refused("say(3, 0)", Due::busy, y -> y.say(3, 0), Due.BEYOND);
        Due.refused("say(-1, 0)", Due::busy, y -> y.say(-1, 0), Due.BEYOND);
        Due.refused("say(0, 64)", Due::busy, y -> y.say(0, 64), Due.BEYOND);
        Due.refused("say(0, -1)", Due::busy, y -> y.say(0, -1), Due.BEYOND);
    }

    /** The first SAYING that BROTHER 1 AVOIDS. */
    private static int sayAvoided(ParrotVow x) {
        for (int s = 0; s < 64; s++) {
            if (x.avoids(1, s) == 1) {
                return x.say(1, s);
            }
        }
        return 0;
    }

    private static void sayHeld() {
        ParrotVow x = new ParrotVow();
        x.brother(0);
        Due.text(x, 0, "0");
        Due.text(x, 1, "99");
        for (int i = 0; i < 50; i++) {
            x.loose(20);
        }
        Due.due("WORTH after 1000 times 99", x.count(3), 99000);
        for (int i = 0; i < 10; i++) {
            x.say(0, 1);
        }
        Due.due("WORTH after 1010 times 99", x.count(3), 99990);
        x.say(0, 1);
        Due.due("WORTH is held", x.count(3), 99999);
        x.say(0, 1);
        Due.due("WORTH is held", x.count(3), 99999);
        Due.due("SAID", x.brotherIs(0, 2), 1012);
    }

    /** Behind 24 SIGNS one still SAYS things, and they are FELT. */
    private static void saidAndUnheard() {
        ParrotVow x = new ParrotVow();
        x.brother(60);
        for (int i = 0; i < 24; i++) {
            x.sign(9, 0);
        }
        Due.due("F", x.vows(0), 665);
        Due.due("say(0, 9)", x.say(0, 9), 1);
        Due.due("SIGNS", x.count(1), 24);
        Due.due("F", x.vows(0), 665);
        Due.due("SAID", x.brotherIs(0, 2), 1);
        Due.due("WORTH", x.count(3), 2);
    }
}
