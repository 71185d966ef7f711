/** Promises 33 and 34: the IMAGE. */
final class ImagesTest {
    public static void main(String[] args) {
        howOften();
        allIsKept();
        allButSome();
        none();
        Due.end();
    }

    private static void howOften() {
        ParrotVow x = new ParrotVow();
        Due.due("image()", x.image(), 1);
        Due.due("image()", x.image(), 2);
        Due.due("restore()", x.restore(), 0);
        Due.due("image() after restore()", x.image(), 3);
    }

    private static void allIsKept() {
        ParrotVow x = Due.busy();
        x.image();
        String kept = common(x);
        for (int round = 0; round < 2; round++) {
            spoil(x);
            Due.due("restore()", x.restore(), 8);
            Due.due("after restore()", common(x), kept);
        }
        x.day(50);
        x.image();
        x.day(60);
        Due.due("restore() of the later one", x.restore(), 50);
        Due.due("the numbers that wait", x.count(6), 2);
        Due.due("check()", x.check(), 1);
        x.restore();
        Due.due("they wait again", x.count(6), 2);
        Due.due("THE TAPE is kept", x.count(5), 3);
        Due.due("and is read", x.text(1), -10);
        x.restore();
        Due.due("and is read", x.text(0), 1);
    }

    private static void spoil(ParrotVow x) {
        x.become(0, 69);
        x.brother(41);
        x.vow(7);
        x.forget(1);
        x.sign(44, 1);
        x.say(0, 30);
        x.text(0);
        Due.text(x, 1, "s");
        x.untell(0);
        Due.feed(x, "12");
        x.loose(3);
        x.day(500);
        x.seed(4);
        x.check();
        x.tell(8);
    }

    /** What an IMAGE keeps, as far as it can be seen without spoiling anything. */
    private static String common(ParrotVow x) {
        StringBuilder all = new StringBuilder();
        for (int what = 0; what <= 8; what++) {
            all.append(what == 7 ? 0 : x.count(what)).append(' ');
        }
        for (int i = 0; i < x.count(0); i++) {
            for (int what = 0; what <= 3; what++) {
                all.append(x.brotherIs(i, what)).append(' ');
            }
            all.append(x.talk(i, 40)).append(' ');
        }
        for (int what = 0; what <= 3; what++) {
            all.append(x.vows(what)).append(' ');
        }
        all.append(x.law(0, 0, 30, 40)).append(' ').append(x.law(1, 3, 30, 5)).append(' ');
        return all.append(x.unsaid(0)).toString();
    }

    private static void allButSome() {
        ParrotVow x = Due.busy();
        x.sheet(3, 8, 1);
        x.put(0, 0, 9);
        x.sheet(1, 0, 0);
        x.voice(0, 0, 1);
        x.body(99);
        x.image();
        int none = x.told(2);
        x.sheet(3, 8, 3);
        x.put(0, 0, 3);
        x.voice(1, 3, 1);
        x.body(99);
        x.restore();
        Due.due("SHEET 3 stays", x.put(3, 2, 0), 1);
        Due.due("SHEET 1 stays missing", x.judge(1), Due.NONE);
        Due.due("SHEET 0 stays: 3, 1, 0, 1", x.signs(0), 4);
        Due.due("THE TRACE stays", x.count(7), 5);
        Due.due("body(0)", x.body(0), 21);
        Due.due("told(2) goes on", x.told(2), none + 2);
    }

    private static void none() {
        Due.refused("restore()", ImagesTest::withoutImage, ParrotVow::restore, Due.NONE);
        ParrotVow x = withoutImage();
        Due.due("restore()", x.restore(), Due.NONE);
        Due.due("image()", x.image(), 1);
        Due.due("restore()", x.restore(), 4);
    }

    private static ParrotVow withoutImage() {
        ParrotVow x = new ParrotVow();
        x.brother(5);
        x.day(3);
        x.loose(1);
        x.tell(4);
        return x;
    }
}
