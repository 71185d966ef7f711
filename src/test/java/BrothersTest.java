/** Promises 1 to 7: a new object, and what a BROTHER is, AVOIDS and TELLS. */
final class BrothersTest {
    public static void main(String[] args) {
        aNewObject();
        besideOthers();
        brother();
        brotherIs();
        become();
        as();
        avoidsByKinds();
        avoidsWithoutFittingVows();
        avoidsByText();
        talkByKinds();
        talkHeld();
        talkByText();
        Due.end();
    }

    private static void aNewObject() {
        asAtFirst(new ParrotVow());
    }

    /** What is done with others, made ahead of it or behind it, changes nothing in an object. */
    private static void besideOthers() {
        ParrotVow before = Due.full();
        ParrotVow x = new ParrotVow();
        ParrotVow y = Due.busy();
        y.brother(70);
        before.restore();
        before.forget(24);
        before.sign(7, 1);
        before.put(1, 23, 64);
        before.voice(4, 2, 9);
        before.tell(3);
        before.brother(0);
        before.day(77);
        asAtFirst(x);
        x.brother(30);
        x.sign(9, 0);
        x.day(2);
        x.image();
        Due.due("the one's F", before.vows(0), 64);
        Due.due("the one's DAY", before.count(2), 77);
        Due.due("the other, as it was but for one ERROR", Due.seen(y), Due.seen(Due.busy()));
        asAtFirst(new ParrotVow());
    }

    private static void asAtFirst(ParrotVow x) {
        int[] counts = {0, 0, 0, 0, 728, 0, 0, 0, 1};
        for (int what = 0; what <= 8; what++) {
            Due.due("new: count(" + what + ")", x.count(what), counts[what]);
        }
        for (int k = 1; k <= 6; k++) {
            Due.due("new: told(" + k + ")", x.told(k), 0);
        }
        Due.due("new: vows(0)", x.vows(0), 729);
        Due.due("new: untell(0)", x.untell(0), 0);
        Due.due("new: untell(1)", x.untell(1), 0);
        Due.due("new: restore()", x.restore(), Due.NONE);
        for (int sheet = 0; sheet < 4; sheet++) {
            Due.due("new: judge(" + sheet + ")", x.judge(sheet), Due.NONE);
        }
        Due.due("new: body(0)", x.body(0), Due.NONE);
        Due.due("new: unsaid(0)", x.unsaid(0), 0);
    }

    private static void brother() {
        ParrotVow x = new ParrotVow();
        int[] kms = {69, 0, 15, 23, 38, 41};
        for (int i = 0; i < kms.length; i++) {
            Due.due("brother(" + kms[i] + ")", x.brother(kms[i]), i);
            Due.due("brotherIs(" + i + ", 0)", x.brotherIs(i, 0), kms[i] / 10);
            Due.due("brotherIs(" + i + ", 1)", x.brotherIs(i, 1), kms[i] % 10);
            Due.due("brotherIs(" + i + ", 2)", x.brotherIs(i, 2), 0);
        }
        Due.due("brother(0) as the seventh", x.brother(0), Due.FULL);
        Due.due("brother(70) as the seventh", x.brother(70), Due.BEYOND);
        Due.due("count(0)", x.count(0), 6);
        Due.refused("brother(70)", Due::busy, y -> y.brother(70), Due.BEYOND);
        Due.refused("brother(-1)", Due::busy, y -> y.brother(-1), Due.BEYOND);
        Due.refused("brother(1) too many", BrothersTest::six, y -> y.brother(1), Due.FULL);
    }

    private static ParrotVow six() {
        ParrotVow x = Due.busy();
        x.brother(35);
        x.brother(46);
        x.brother(57);
        return x;
    }

    private static void brotherIs() {
        ParrotVow x = new ParrotVow();
        x.brother(67);
        x.say(0, 1);
        x.say(0, 1);
        Due.due("brotherIs(0, 0)", x.brotherIs(0, 0), 6);
        Due.due("brotherIs(0, 1)", x.brotherIs(0, 1), 7);
        Due.due("brotherIs(0, 2)", x.brotherIs(0, 2), 2);
        Due.due("brotherIs(0, 3): LAY", x.brotherIs(0, 3), 1);
        x.brother(10);
        x.forget(2);
        Due.due("brotherIs(1, 3): CAREFUL", x.brotherIs(1, 3), 64);
        x.sign(63, 0);
        Due.due("brotherIs(1, 3): CAREFUL, but for 63", x.brotherIs(1, 3), 63);
        Due.refused("brotherIs(3, 0)", Due::busy, y -> y.brotherIs(3, 0), Due.BEYOND);
        Due.refused("brotherIs(-1, 0)", Due::busy, y -> y.brotherIs(-1, 0), Due.BEYOND);
        Due.refused("brotherIs(0, 4)", Due::busy, y -> y.brotherIs(0, 4), Due.BEYOND);
        Due.refused("brotherIs(0, -1)", Due::busy, y -> y.brotherIs(0, -1), Due.BEYOND);
    }

    private static void become() {
        ParrotVow x = new ParrotVow();
        x.brother(25);
        x.brother(31);
        x.say(0, 1);
        Due.due("become(0, 48)", x.become(0, 48), 2);
        Due.due("then KIND", x.brotherIs(0, 0), 4);
        Due.due("then m", x.brotherIs(0, 1), 8);
        Due.due("then SAID", x.brotherIs(0, 2), 1);
        Due.due("the other's KIND", x.brotherIs(1, 0), 3);
        Due.due("become(0, 69)", x.become(0, 69), 4);
        Due.refused("become(0, 70)", Due::busy, y -> y.become(0, 70), Due.BEYOND);
        Due.refused("become(0, -1)", Due::busy, y -> y.become(0, -1), Due.BEYOND);
        Due.refused("become(3, 1)", Due::busy, y -> y.become(3, 1), Due.BEYOND);
        Due.refused("become(-1, 1)", Due::busy, y -> y.become(-1, 1), Due.BEYOND);
    }

    private static void as() {
        String[] under = {"0", "01", "02", "03", "014", "025", "06"};
        for (int kind = 0; kind <= 6; kind++) {
            ParrotVow x = new ParrotVow();
            x.brother(10 * kind + 9 - kind);
            for (int as = 0; as <= 6; as++) {
                boolean is = under[kind].indexOf('0' + as) >= 0;
                Due.due("kind " + kind + " as(0, " + as + ")", x.as(0, as), is ? 9 - kind : Due.KIND);
            }
        }
        Due.refused("as(0, 1)", Due::busy, y -> y.as(0, 1), Due.KIND);
        Due.refused("as(0, 7)", Due::busy, y -> y.as(0, 7), Due.BEYOND);
        Due.refused("as(0, -1)", Due::busy, y -> y.as(0, -1), Due.BEYOND);
        Due.refused("as(3, 0)", Due::busy, y -> y.as(3, 0), Due.BEYOND);
        Due.refused("as(-1, 0)", Due::busy, y -> y.as(-1, 0), Due.BEYOND);
    }

    private static ParrotVow one(int km) {
        ParrotVow x = new ParrotVow();
        x.brother(km);
        return x;
    }

    /** After SIGN 5 FELT: F is 64, B of 5 is 64, of 4 it is 32, of 6 it is 16, of 2 it is 8. */
    private static ParrotVow afterFive(int km) {
        ParrotVow x = one(km);
        x.sign(5, 1);
        return x;
    }

    private static void avoids(ParrotVow x, String who, int saying, int want) {
        Due.due(who + " avoids(0, " + saying + ")", x.avoids(0, saying), want);
    }

    private static void avoidsByKinds() {
        avoids(afterFive(5), "BROTHER 5", 4, 0);
        avoids(afterFive(4), "BROTHER 4", 4, 1);
        avoids(afterFive(9), "BROTHER 9", 5, 1);
        avoids(afterFive(0), "BROTHER 0", 58, 1);
        avoids(afterFive(19), "CAREFUL", 2, 1);
        ParrotVow careful = one(19);
        careful.sign(2, 0);
        avoids(careful, "CAREFUL", 2, 0);
        avoids(careful, "CAREFUL", 3, 1);
        avoids(afterFive(20), "BOLD", 4, 0);
        avoids(afterFive(20), "BOLD", 5, 1);
        ParrotVow tuesday = afterFive(34);
        avoids(tuesday, "TUESDAY on DAY 0", 4, 0);
        tuesday.day(2);
        avoids(tuesday, "TUESDAY on DAY 2", 4, 1);
        avoids(tuesday, "TUESDAY on DAY 2", 6, 0);
        tuesday.become(0, 35);
        avoids(tuesday, "TUESDAY 5 on DAY 2", 4, 0);
        tuesday.become(0, 34);
        tuesday.day(9);
        avoids(tuesday, "TUESDAY on DAY 9", 5, 1);
        tuesday.day(10);
        avoids(tuesday, "TUESDAY on DAY 10", 5, 0);
        ParrotVow mute = one(43);
        mute.sign(2, 0);
        mute.sign(1, 0);
        avoids(mute, "MUTE 3", 2, 0);
        avoids(mute, "MUTE 3", 1, 1);
        avoids(mute, "MUTE 3", 4, 1);
        ParrotVow cougher = afterFive(50);
        avoids(cougher, "COUGHER", 5, 1);
        avoids(cougher, "COUGHER", 4, 0);
        cougher.sign(58, 0);
        avoids(cougher, "COUGHER at 63 of 63", 5, 1);
        avoids(cougher, "COUGHER at 31 of 63", 4, 0);
        ParrotVow bold = afterFive(20);
        bold.sign(4, 1);
        avoids(bold, "BOLD at 32 of 32", 4, 1);
        avoids(bold, "BOLD at 16 of 32", 6, 0);
        avoids(one(20), "BOLD at 64 of 729", 5, 0);
        ParrotVow lay = afterFive(64);
        avoids(lay, "LAY 4", 4, 1);
        avoids(lay, "LAY 4", 5, 0);
        Due.refused("avoids(3, 0)", Due::busy, y -> y.avoids(3, 0), Due.BEYOND);
        Due.refused("avoids(-1, 0)", Due::busy, y -> y.avoids(-1, 0), Due.BEYOND);
        Due.refused("avoids(0, 64)", Due::busy, y -> y.avoids(0, 64), Due.BEYOND);
        Due.refused("avoids(0, -1)", Due::busy, y -> y.avoids(0, -1), Due.BEYOND);
    }

    private static void avoidsWithoutFittingVows() {
        int[] kms = {0, 10, 20, 30, 41, 50, 64};
        int[] wants = {0, 0, 0, 0, 0, 0, 1};
        for (int kind = 0; kind <= 6; kind++) {
            ParrotVow x = one(kms[kind]);
            x.sign(4, 1);
            x.sign(4, 0);
            x.day(2);
            avoids(x, "none FITS, kind " + kind, 4, wants[kind]);
        }
    }

    private static void avoidsByText() {
        ParrotVow x = afterFive(5);
        Due.text(x, 0, "!a");
        avoids(x, "!a", 4, 1);
        avoids(x, "!a", 5, 0);
        Due.text(x, 0, "a=1");
        avoids(x, "a=1", 5, 1);
        avoids(x, "a=1", 4, 0);
        Due.text(x, 0, "b=32&f=64");
        avoids(x, "b=32&f=64", 4, 1);
        avoids(x, "b=32&f=64", 5, 0);
        Due.text(x, 0, "b-32");
        avoids(x, "b-32, held at 1", 5, 1);
        avoids(x, "b-32, held at 0", 6, 0);
        avoids(x, "b-32", 4, 0);
    }

    private static void talkByKinds() {
        int[] kms = {5, 15, 25, 35, 45, 55, 65};
        int[] wants = {9, 4, 13, 9, 0, 12, 11};
        for (int kind = 0; kind <= 6; kind++) {
            ParrotVow x = one(kms[kind]);
            x.day(5);
            Due.due("kind " + kind + " talk(0, 39)", x.talk(0, 39), wants[kind]);
        }
        Due.due("BOLD talk(0, 63)", one(29).talk(0, 63), 18);
        Due.due("CAREFUL talk(0, 0)", one(11).talk(0, 0), 0);
        Due.refused("talk(3, 0)", Due::busy, y -> y.talk(3, 0), Due.BEYOND);
        Due.refused("talk(-1, 0)", Due::busy, y -> y.talk(-1, 0), Due.BEYOND);
        Due.refused("talk(0, 64)", Due::busy, y -> y.talk(0, 64), Due.BEYOND);
        Due.refused("talk(0, -1)", Due::busy, y -> y.talk(0, -1), Due.BEYOND);
    }

    private static void talkHeld() {
        Due.due("COUGHER 0 talk(0, 0), held at 0", one(50).talk(0, 0), 0);
        ParrotVow x = one(50);
        Due.text(x, 1, "t+5");
        Due.due("COUGHER 0 with t+5: t is -1", x.talk(0, 0), 4);
        Due.text(x, 1, "s*2");
        Due.due("s*2, held at 99", x.talk(0, 63), 99);
        Due.due("s*2", x.talk(0, 49), 98);
    }

    private static void talkByText() {
        ParrotVow x = one(7);
        Due.text(x, 1, "t*10+d");
        x.day(13);
        Due.due("t*10+d on DAY 13", x.talk(0, 3), 96);
        x.day(14);
        Due.due("t*10+d on DAY 14", x.talk(0, 3), 90);
    }
}
