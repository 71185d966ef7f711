/** Promises 35 to 38: numbers that wait, what is counted, what is told. */
final class ToldTest {
    public static void main(String[] args) {
        tell();
        check();
        count();
        told();
        toldInLongs();
        Due.end();
    }

    private static void tell() {
        ParrotVow x = new ParrotVow();
        for (int i = 1; i <= 24; i++) {
            Due.due("tell(" + -i + ")", x.tell(-i), i);
        }
        Due.due("count(6)", x.count(6), 24);
        Due.due("tell(5)", x.tell(5), Due.FULL);
        Due.refused("tell(5)", ToldTest::full, y -> y.tell(5), Due.FULL);
        Due.due("check()", x.check(), 1);
        Due.due("tell(5) after check()", x.tell(5), 1);
    }

    private static ParrotVow full() {
        ParrotVow x = Due.busy();
        for (int i = x.count(6); i < 24; i++) {
            x.tell(0);
        }
        return x;
    }

    private static void check(int want, int... numbers) {
        ParrotVow x = new ParrotVow();
        x.brother(60);
        x.brother(60);
        x.brother(60);
        x.say(0, 1);
        x.say(2, 1);
        x.say(2, 2);
        for (int v : numbers) {
            x.tell(v);
        }
        Due.due("check() of " + java.util.Arrays.toString(numbers), x.check(), want);
        Due.due("none wait then", x.count(6), 0);
        Due.due("check() of none", x.check(), 0);
    }

    private static void check() {
        check(0);
        check(0, 1);
        check(0, 1, 0);
        check(0, 1, 0, 2);
        check(4, 1, 0, 2, 0);
        check(1, 0, 0, 2);
        check(2, 1, 1, 1);
        check(3, 1, 0, 3);
        check(1, -1, 0, 2);
        check(1, 2, 1, 0, 5, 6, 7);
        ParrotVow x = new ParrotVow();
        x.tell(0);
        Due.due("check() without BROTHERS", x.check(), 1);
    }

    private static void count() {
        ParrotVow x = Due.busy();
        Due.due("count(0)", x.count(0), 3);
        Due.due("count(2)", x.count(2), 8);
        Due.due("count(4)", x.count(4), 485);
        Due.due("count(5)", x.count(5), 3);
        Due.due("count(6)", x.count(6), 2);
        Due.due("count(7)", x.count(7), 4);
        x.seed(-1);
        Due.due("count(8)", x.count(8), -1);
        x.sign(0, 0);
        int signs = x.count(1);
        x.sign(0, 0);
        Due.due("count(1)", x.count(1), signs + 1);
        int worth = x.count(3);
        x.become(0, 60);
        x.text(0);
        Due.text(x, 0, "0");
        Due.text(x, 1, "41");
        x.say(0, 9);
        Due.due("count(3)", x.count(3), worth + 41);
        Due.refused("count(9)", Due::busy, y -> y.count(9), Due.BEYOND);
        Due.refused("count(-1)", Due::busy, y -> y.count(-1), Due.BEYOND);
    }

    private static void told() {
        ParrotVow x = new ParrotVow();
        x.brother(0);
        x.voice(0, 3, 1);
        x.body(0);
        x.body(1);
        x.loose(1);
        x.as(0, 1);
        x.as(0, 1);
        x.as(0, 1);
        x.sheet(0, 8, -1);
        x.sheet(0, 8, -1);
        for (int i = 0; i < 24 + 4; i++) {
            x.tell(i);
        }
        x.count(9);
        int[] wants = {1, 1, 2, 4, 3, 1};
        for (int k = 1; k <= 6; k++) {
            Due.due("told(" + k + ")", x.told(k), wants[k - 1]);
        }
        Due.due("told(0)", x.told(0), Due.BEYOND);
        Due.due("told(7)", x.told(7), Due.BEYOND);
        Due.due("told(-1)", x.told(-1), Due.BEYOND);
        Due.due("told(1), those counted, too", x.told(1), 4);
        Due.refused("told(7)", Due::busy, y -> y.told(7), Due.BEYOND);
        Due.refused("told(0)", Due::busy, y -> y.told(0), Due.BEYOND);
    }

    private static void toldInLongs() {
        ParrotVow x = new ParrotVow();
        x.unsaid(5);
        Due.due("told(1)", x.told(1), 1);
    }
}
