/** Nothing at all, and all that there is room for: what each call answers then, and the first that has no room. */
final class RoomTest {
    private static final String SIXTY = "1+1+1+1+1+1+1+1+1+1+1+1+1+1+1+1+1+1+1+1+1+1+1+1+1+1+1+1+1+22";

    public static void main(String[] args) {
        nothing();
        brothers();
        signsBySign();
        signsBySay();
        signsByDays();
        signsBySheet();
        signsByTwoSheets();
        tape();
        tapeIsTakenWhole();
        longTexts();
        waiting();
        sheets();
        days();
        worth();
        fullIsFull();
        backToNothing();
        calls();
        Due.end();
    }

    private static void nothing() {
        ParrotVow x = new ParrotVow();
        Due.due("nothing: vows(0)", x.vows(0), 729);
        Due.due("nothing: vows(1)", x.vows(1), 0);
        Due.due("nothing: vows(2)", x.vows(2), 728);
        Due.due("nothing: vows(3)", x.vows(3), 0);
        Due.due("nothing: parts(0)", x.parts(0), 0);
        Due.due("nothing: parts(1)", x.parts(1), 64);
        Due.due("nothing: unsaid(0)", x.unsaid(0), 0);
        Due.due("nothing: unsaid(1)", x.unsaid(1), 0);
        Due.due("nothing: forget(0)", x.forget(0), 729);
        Due.due("nothing: untell(0)", x.untell(0), 0);
        Due.due("nothing: untell(1)", x.untell(1), 0);
        Due.due("nothing: law(0, 1, 0, 0)", x.law(0, 1, 0, 0), 1);
        Due.due("nothing: law(1, 99, 0, 0)", x.law(1, 99, 0, 0), 99);
        Due.due("nothing: check()", x.check(), 0);
        Due.due("nothing: no ERROR so far", x.told(1) + x.told(2) + x.told(3) + x.told(4) + x.told(5) + x.told(6), 0);
        Due.due("nothing: text(0) of 0 bytes", x.text(0), -10);
        Due.due("nothing: text(1) of 0 bytes", x.text(1), -10);
        Due.due("nothing: no ERROR in a FAULT", x.told(1), 0);
        Due.due("nothing: freest(0)", x.freest(0), Due.STATE);
        Due.due("nothing: restore()", x.restore(), Due.NONE);
        for (int s = 0; s < 64; s++) {
            Due.due("nothing: sure(" + s + ")", x.sure(s), Due.NONE);
            Due.due("nothing: odds(" + s + ", 0)", x.odds(s, 0), 64);
            Due.due("nothing: odds(" + s + ", 1)", x.odds(s, 1), 729);
        }
        Due.due("nothing: seed(2)", x.seed(2), 1);
        Due.due("nothing: day(0)", x.day(0), 0);
        Due.due("nothing: vow(728)", x.vow(728), 728);
        Due.due("nothing: image()", x.image(), 1);
    }

    private static void brothers() {
        ParrotVow x = new ParrotVow();
        for (int i = 0; i < 6; i++) {
            Due.due("count(0)", x.count(0), i);
            Due.due("brother(" + (69 - 11 * i) + ")", x.brother(69 - 11 * i), i);
        }
        Due.due("a seventh", x.brother(0), Due.FULL);
        Due.due("count(0)", x.count(0), 6);
        for (int i = 0; i < 6; i++) {
            Due.due("BROTHER " + i + "'s KIND and m", 10 * x.brotherIs(i, 0) + x.brotherIs(i, 1), 69 - 11 * i);
            Due.due("become() of BROTHER " + i, x.become(i, 60 + i), (69 - 11 * i) / 10);
            Due.due("say(" + i + ", 63)", x.say(i, 63), 1);
            Due.due("SAID of BROTHER " + i, x.brotherIs(i, 2), 1);
        }
        Due.due("a seventh after all", x.brother(69), Due.FULL);
    }

    private static ParrotVow withSigns(int n) {
        ParrotVow x = new ParrotVow();
        x.brother(60);
        for (int i = 0; i < n; i++) {
            x.sign(5, 1);
        }
        return x;
    }

    private static void signsBySign() {
        ParrotVow x = new ParrotVow();
        for (int i = 1; i <= 23; i++) {
            Due.due("SIGN " + i, x.sign(5, 1), 64);
            Due.due("count(1)", x.count(1), i);
        }
        Due.due("SIGN 24 tells, too", x.sign(4, 1), 32);
        Due.due("SIGN 25", x.sign(6, 1), Due.FULL);
        Due.due("F stays", x.vows(0), 32);
        Due.due("forget(24)", x.forget(24), 729);
        Due.due("count(1)", x.count(1), 0);
        Due.due("and there is room again", x.sign(4, 0), 665);
    }

    private static void signsBySay() {
        ParrotVow x = withSigns(23);
        x.vow(0);
        Due.due("say(0, 1) behind 23", x.say(0, 1), 0);
        Due.due("is one more SIGN", x.count(1), 24);
        Due.due("F", x.vows(0), 32);
        x.vow(728);
        Due.due("say(0, 2) behind 24 is FELT", x.say(0, 2), 1);
        Due.due("but no SIGN", x.count(1), 24);
        Due.due("F stays", x.vows(0), 32);
        Due.due("SAID is 1 more", x.brotherIs(0, 2), 2);
        Due.due("WORTH is 1 and 1 more", x.count(3), 2);
        Due.due("no ERROR", x.told(4), 0);
        Due.due("forget(1): the latest is that behind 23", x.forget(1), 64);
    }

    private static void signsByDays() {
        ParrotVow x = withSigns(23);
        Due.text(x, 0, "0");
        x.vow(728);
        int felt = x.loose(20);
        Due.due("SIGNS after 20 DAYS", x.count(1), 24);
        Due.due("SAID after 20 DAYS", x.brotherIs(0, 2), 20);
        Due.due("more is FELT than there was room for", felt > 1 ? 1 : 0, 1);
        int f = x.vows(0);
        x.loose(20);
        Due.due("F stays", x.vows(0), f);
    }

    private static void signsBySheet() {
        ParrotVow x = new ParrotVow();
        x.vow(728);
        Due.sheet(x, 0, 8, new int[24]);
        for (int i = 0; i < 24; i++) {
            x.put(0, i, 40 + i);
        }
        Due.due("signs(0) of 24 with room for 24", x.signs(0), 24);
        Due.due("count(1)", x.count(1), 24);
        Due.due("signs(0) of 24 without room", x.signs(0), 0);
        Due.due("forget(1)", x.forget(1) > 0 ? 1 : 0, 1);
        Due.due("signs(0) of 24 with room for 1", x.signs(0), 1);
        x.sheet(1, 32, 0);
        Due.due("signs(1) of none without room", x.signs(1), 0);
        x.forget(24);
        Due.due("signs(1) of none with room", x.signs(1), 0);
        Due.due("no ERROR", x.told(4), 0);
    }

    /** With room for one, a number that is no SAYING is never come to. */
    private static void signsByTwoSheets() {
        ParrotVow x = withSigns(22);
        Due.sheet(x, 0, 16, 63, 0, 64, 1);
        Due.due("signs(0): 63, 0, then 64", x.signs(0), 2);
        Due.due("count(1)", x.count(1), 24);
        x.forget(1);
        Due.due("signs(0): 63 alone", x.signs(0), 1);
        x.forget(1);
        Due.sheet(x, 1, 16, 64);
        Due.due("signs(1): 64", x.signs(1), 0);
        Due.due("count(1)", x.count(1), 23);
    }

    private static void tape() {
        ParrotVow x = new ParrotVow();
        for (int n = 1; n <= 8; n++) {
            x.text(0);
            int there = 0;
            while (there + n <= 60) {
                there += n;
                Due.due("feed of " + n, x.feed(-1L, n), there);
            }
            Due.due("feed of " + n + " with " + there, x.feed(-1L, n), Due.FULL);
            Due.due("count(5)", x.count(5), there);
            if (there < 60) {
                Due.due("feed of the rest", x.feed(-1L, 60 - there), 60);
            }
            Due.due("feed of 1 with 60", x.feed(-1L, 1), Due.FULL);
        }
        Due.due("text(0) of 60 bytes 255", x.text(0), -10);
        Due.due("count(5)", x.count(5), 0);
    }

    /** A feed() for which there isn't room for all of its bytes brings none. */
    private static void tapeIsTakenWhole() {
        ParrotVow x = new ParrotVow();
        Due.feed(x, SIXTY.substring(0, 58));
        Due.due("feed of 3 with 58", x.feed(0x323232L, 3), Due.FULL);
        Due.due("count(5)", x.count(5), 58);
        Due.due("feed of 2 with 58", x.feed(0x3232L, 2), 60);
        Due.due("text(1)", x.text(1), 1);
        Due.due("law(1)", x.law(1, 0, 0, 0), 51);
    }

    private static void longTexts() {
        ParrotVow x = new ParrotVow();
        Due.due("text(1) of 60 bytes", Due.text(x, 1, SIXTY), 1);
        Due.due("text(0) of 60 bytes", Due.text(x, 0, "0" + SIXTY.substring(0, 57) + "-b"), 1);
        Due.due("29 + 22", x.law(1, 0, 0, 0), 51);
        Due.due("29 - 28", x.law(0, 0, 28, 0), 1);
        Due.due("29 - 29", x.law(0, 0, 29, 0), 0);
        Due.feed(x, SIXTY);
        x.image();
        x.text(0);
        x.untell(1);
        x.restore();
        Due.due("60 bytes in the IMAGE", x.count(5), 60);
        Due.due("both TEXTS in the IMAGE", x.law(1, 0, 0, 0) + x.law(0, 0, 28, 0), 52);
        String ends = SIXTY.substring(0, 59) + "+";
        Due.due("60 bytes that end too early", Due.text(x, 0, "") + Due.text(x, 0, ends), 1 - 70);
        Due.due("60 bytes, the last a fault", Due.text(x, 0, SIXTY.substring(0, 59) + "a"), -10 - 59);
        Due.due("60 bytes, the first a fault", Due.text(x, 0, "+" + SIXTY.substring(0, 59)), -10);
        Due.due("29 - 28 still", x.law(0, 0, 28, 0), 1);
    }

    private static void waiting() {
        ParrotVow x = new ParrotVow();
        for (int i = 0; i < 6; i++) {
            x.brother(60);
        }
        Due.due("check() while none waits", x.check(), 0);
        for (int i = 1; i <= 24; i++) {
            Due.due("tell(0)", x.tell(0), i);
        }
        Due.due("tell(9) while 24 wait", x.tell(9), Due.FULL);
        Due.due("check(): number 6 has no BROTHER", x.check(), 1 + 6);
        for (int i = 1; i <= 6; i++) {
            Due.due("tell(0)", x.tell(0), i);
        }
        Due.due("check() of just as many as BROTHERS", x.check(), 0);
        for (int i = 1; i <= 24; i++) {
            Due.due("tell(" + i + ")", x.tell(i == 1 ? Integer.MIN_VALUE : i), i);
        }
        Due.due("tell(0) while 24 wait", x.tell(0), Due.FULL);
        Due.due("check(): number 0", x.check(), 1);
        Due.due("count(6)", x.count(6), 0);
        Due.due("tell(0) again", x.tell(0), 1);
    }

    private static void sheets() {
        int[] bits = {8, 16, 32, 8};
        ParrotVow x = new ParrotVow();
        for (int sheet = 0; sheet < 4; sheet++) {
            Due.due("sheet(" + sheet + ", " + bits[sheet] + ", 24)", x.sheet(sheet, bits[sheet], 24), 1);
            for (int i = 0; i < 24; i++) {
                Due.due("put(" + sheet + ", " + i + ", ..)", x.put(sheet, i, i % 2 == 0 ? 64 : 63 - sheet), 1);
            }
            Due.due("put(" + sheet + ", 24, ..)", x.put(sheet, 24, 1), Due.BEYOND);
        }
        for (int sheet = 0; sheet < 4; sheet++) {
            Due.due("judge(" + sheet + "): 64 is right, the next not", x.judge(sheet), 1);
            for (int i = 1; i < 24; i += 2) {
                x.put(sheet, i, 64);
            }
            Due.due("judge(" + sheet + "): all 24", x.judge(sheet), 24);
            Due.due("fits(" + sheet + ", 0): 64 is neither", x.fits(sheet, 0), 0);
        }
        Due.due("move of all 24", x.move(0, 0, 3, 0, 24), 24);
        Due.due("move of 25", x.move(0, 0, 3, 0, 25), Due.BEYOND);
        Due.due("move of all 24 upon themselves", x.move(1, 0, 1, 0, 24), 24);
        x.put(0, 23, 9);
        Due.due("the last alone is moved", x.move(0, 23, 3, 23, 1), 1);
        Due.due("judge(3): all but the last", x.judge(3), 23);
        x.move(0, 23, 3, 0, 1);
        Due.due("judge(3): the first is wrong, too", x.judge(3), 0);
    }

    private static void days() {
        ParrotVow x = new ParrotVow();
        x.brother(60);
        for (int n = 1; n <= 20; n++) {
            x.day(9999 - n);
            int z = x.count(8);
            Due.due("loose(" + (n + 1) + ") of one too many", x.loose(n + 1), n == 20 ? Due.BEYOND : Due.STATE);
            Due.due("DAY", x.count(2), 9999 - n);
            Due.due("nothing is drawn", x.count(8), z);
            Due.due("loose(" + n + ") up to the last DAY", x.loose(n) >= 0 ? 1 : 0, 1);
            Due.due("DAY", x.count(2), 9999);
            Due.due("loose(1) on the last DAY", x.loose(1), Due.STATE);
        }
        Due.due("told(3)", x.told(3), 19 + 20);
        Due.due("told(1)", x.told(1), 1);
    }

    /** WORTH 99990 is made of 1010 times TALK 99: then it is held, from just as much on. */
    private static ParrotVow rich() {
        ParrotVow x = new ParrotVow();
        x.brother(60);
        Due.text(x, 0, "0");
        Due.text(x, 1, "99");
        for (int i = 0; i < 50; i++) {
            x.loose(20);
        }
        x.loose(10);
        return x;
    }

    private static void worth(int talk, int want) {
        ParrotVow x = rich();
        Due.due("WORTH ahead", x.count(3), 99990);
        Due.text(x, 1, "s");
        Due.due("TALK", x.talk(0, talk), talk);
        x.say(0, talk);
        Due.due("WORTH with " + talk + " more", x.count(3), want);
        x.say(0, 1);
        Due.due("WORTH with 1 more", x.count(3), Math.min(99999, want + 1));
        Due.due("SAID is not held yet", x.brotherIs(0, 2), 1012);
    }

    private static void worth() {
        worth(0, 99990);
        worth(8, 99998);
        worth(9, 99999);
        worth(10, 99999);
        worth(63, 99999);
        ParrotVow x = rich();
        x.loose(1);
        Due.due("WORTH is held in DAYS, too", x.count(3), 99999);
        x.image();
        x.restore();
        Due.due("WORTH", x.count(3), 99999);
    }

    /** What the other tests take as full is so. */
    private static void fullIsFull() {
        ParrotVow x = Due.full();
        Due.due("brother(0)", x.brother(0), Due.FULL);
        Due.due("sign(0, 0)", x.sign(0, 0), Due.FULL);
        Due.due("feed(0, 1)", x.feed(0L, 1), Due.FULL);
        Due.due("tell(0)", x.tell(0), Due.FULL);
        Due.due("loose(1)", x.loose(1), Due.STATE);
        Due.due("vows(0)", x.vows(0), 0);
        for (int sheet = 0; sheet < 4; sheet++) {
            Due.due("put(" + sheet + ", 23, 0)", x.put(sheet, 23, 0), 1);
        }
    }

    /** An IMAGE of nothing: after it there is room for all again. */
    private static void backToNothing() {
        ParrotVow x = new ParrotVow();
        x.image();
        for (int round = 0; round < 2; round++) {
            for (int i = 0; i < 6; i++) {
                Due.due("brother(60)", x.brother(60), i);
                Due.due("SAID of a new one", x.brotherIs(i, 2), 0);
                x.say(i, 9);
            }
            for (int i = 6; i < 24; i++) {
                x.sign(9, 1);
            }
            Due.feed(x, SIXTY);
            for (int i = 0; i < 24; i++) {
                x.tell(i);
            }
            x.day(9999);
            x.seed(5);
            x.vow(3);
            Due.due("restore()", x.restore(), 0);
            int[] counts = {0, 0, 0, 0, 728, 0, 0, 0, 1};
            for (int what = 0; what <= 8; what++) {
                Due.due("count(" + what + ")", x.count(what), counts[what]);
            }
            Due.due("vows(0)", x.vows(0), 729);
        }
    }

    /** The 512th call answers as any other. */
    private static void calls() {
        ParrotVow x = new ParrotVow();
        for (int i = 1; i <= 510; i++) {
            Due.due("image()", x.image(), i);
        }
        Due.due("call 511", x.told(7), Due.BEYOND);
        Due.due("call 512", x.told(1), 1);
    }
}
