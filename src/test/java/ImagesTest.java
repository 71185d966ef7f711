/** Promises 33 and 34: the IMAGE. */
final class ImagesTest {
    public static void main(String[] args) {
        howOften();
        allIsKept();
        allButSome();
        none();
        textsComeAndGo();
        ofNothing();
        ofEverything();
        toldGoesOn();
        Due.end();
    }

    private static void howOften() {
        ParrotVow x = new ParrotVow();
        Due.due("image()", x.image(), 1);
        Due.due("image()", x.image(), 2);
        Due.due("restore()", x.restore(), 0);
        Due.due("image() after restore()", x.image(), 3);
    }

    private static void allIsKept() {
        ParrotVow x = Due.busy();
        x.image();
        String kept = common(x);
        for (int round = 0; round < 2; round++) {
            spoil(x);
            Due.due("restore()", x.restore(), 8);
            Due.due("after restore()", common(x), kept);
        }
        x.day(50);
        x.image();
        x.day(60);
        Due.due("restore() of the later one", x.restore(), 50);
        Due.due("the numbers that wait", x.count(6), 2);
        Due.due("check()", x.check(), 1);
        x.restore();
        Due.due("they wait again", x.count(6), 2);
        Due.due("THE TAPE is kept", x.count(5), 3);
        Due.due("and is read", x.text(1), -10);
        x.restore();
        Due.due("and is read", x.text(0), 1);
    }

    private static void spoil(ParrotVow x) {
        x.become(0, 69);
        x.brother(41);
        x.vow(7);
        x.forget(1);
        x.sign(44, 1);
        x.say(0, 30);
        x.text(0);
        Due.text(x, 1, "s");
        x.untell(0);
        Due.feed(x, "12");
        x.loose(3);
        x.day(500);
        x.seed(4);
        x.check();
        x.tell(8);
    }

    /** What an IMAGE keeps, as far as it can be seen without spoiling anything. */
    private static String common(ParrotVow x) {
        StringBuilder all = new StringBuilder();
        for (int what = 0; what <= 8; what++) {
            all.append(what == 7 ? 0 : x.count(what)).append(' ');
        }
        for (int i = 0; i < x.count(0); i++) {
            for (int what = 0; what <= 3; what++) {
                all.append(x.brotherIs(i, what)).append(' ');
            }
            all.append(x.talk(i, 40)).append(' ');
        }
        for (int what = 0; what <= 3; what++) {
            all.append(x.vows(what)).append(' ');
        }
        all.append(x.law(0, 0, 30, 40)).append(' ').append(x.law(1, 3, 30, 5)).append(' ');
        return all.append(x.unsaid(0)).toString();
    }

    private static void allButSome() {
        ParrotVow x = Due.busy();
        x.sheet(3, 8, 1);
        x.put(0, 0, 9);
        x.sheet(1, 0, 0);
        x.voice(0, 0, 1);
        x.body(99);
        x.image();
        int none = x.told(2);
        x.sheet(3, 8, 3);
        x.put(0, 0, 3);
        x.voice(1, 3, 1);
        x.body(99);
        x.restore();
        Due.due("SHEET 3 stays", x.put(3, 2, 0), 1);
        Due.due("SHEET 1 stays missing", x.judge(1), Due.NONE);
        Due.due("SHEET 0 stays: 3, 1, 0, 1", x.signs(0), 4);
        Due.due("THE TRACE stays", x.count(7), 5);
        Due.due("body(0)", x.body(0), 21);
        Due.due("told(2) goes on", x.told(2), none + 2);
    }

    private static void none() {
        Due.refused("restore()", ImagesTest::withoutImage, ParrotVow::restore, Due.NONE);
        ParrotVow x = withoutImage();
        Due.due("restore()", x.restore(), Due.NONE);
        Due.due("image()", x.image(), 1);
        Due.due("restore()", x.restore(), 4);
    }

    private static ParrotVow withoutImage() {
        ParrotVow x = new ParrotVow();
        x.brother(5);
        x.day(3);
        x.loose(1);
        x.tell(4);
        return x;
    }

    /** An IMAGE made while there is no TEXT takes it away again; one made while there is brings it back. */
    private static void textsComeAndGo() {
        for (int use = 0; use <= 1; use++) {
            ParrotVow x = new ParrotVow();
            x.image();
            Due.text(x, use, "1");
            x.restore();
            Due.due("no TEXT of USE " + use, x.untell(use), 0);
            Due.text(x, use, "0");
            x.image();
            Due.text(x, use, "1");
            x.restore();
            Due.due("the TEXT that was: law(" + use + ", 1, 1, 1)", x.law(use, 1, 1, 1), 0);
            Due.due("untell(" + use + ")", x.untell(use), 1);
            x.restore();
            Due.due("untell(" + use + ") after one more restore()", x.untell(use), 1);
        }
    }

    private static void ofNothing() {
        ParrotVow x = Due.full();
        ParrotVow y = new ParrotVow();
        y.image();
        Due.due("restore() of nothing to nothing", y.restore(), 0);
        Due.due("image()", y.image(), 2);
        int[] counts = {0, 0, 0, 0, 728, 0, 0, 0, 1};
        for (int what = 0; what <= 8; what++) {
            Due.due("count(" + what + ")", y.count(what), counts[what]);
        }
        Due.due("a full one's restore()", x.restore(), 9999);
        Due.due("numbers that wait", x.count(6), 0);
        Due.due("bytes of THE TAPE", x.count(5), 0);
        Due.due("BROTHERS", x.count(0), 6);
        Due.due("SIGNS", x.count(1), 24);
        Due.due("vows(0)", x.vows(0), 0);
    }

    private static void ofEverything() {
        ParrotVow x = Due.full();
        Due.due("image()", x.image(), 2);
        x.check();
        x.text(1);
        x.forget(24);
        x.seed(3);
        x.vow(9);
        x.untell(0);
        for (int i = 0; i < 6; i++) {
            x.become(i, 0);
            x.say(i, 63);
        }
        Due.due("restore()", x.restore(), 9999);
        ParrotVow y = Due.full();
        y.image();
        y.restore();
        Due.due("all 24 SIGNS, 60 bytes, 24 numbers, 6 BROTHERS", Due.seen(x), Due.seen(y));
    }

    /** What told() tells goes on over image() and restore(), of each ERROR. */
    private static void toldGoesOn() {
        ParrotVow x = new ParrotVow();
        x.brother(0);
        x.image();
        errors(x);
        x.restore();
        for (int k = 1; k <= 6; k++) {
            Due.due("told(" + k + ") after restore()", x.told(k), 1);
        }
        x.image();
        errors(x);
        x.restore();
        for (int k = 1; k <= 6; k++) {
            Due.due("told(" + k + ") after two", x.told(k), 2);
        }
    }

    /** One of each. */
    private static void errors(ParrotVow x) {
        x.count(9);
        x.body(-1);
        x.sheet(0, 8, -1);
        for (int i = 0; i < 25; i++) {
            x.tell(i);
        }
        x.as(0, 1);
        x.voice(0, 3, 1);
    }
}
