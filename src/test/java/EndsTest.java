/** Every argument of every call: the least and the greatest that are allowed, and what lies beyond either. */
final class EndsTest {
    public static void main(String[] args) {
        brothers();
        signs();
        texts();
        days();
        vows();
        voices();
        sheets();
        moves();
        told();
        Due.end();
    }

    /** Of an argument whose ends are the same in each state; BEYOND is asked ahead of all other ERRORS. */
    private static void always(String call, int low, int high, Due.ActWith act) {
        Due.ends("a new object's " + call, ParrotVow::new, low, high, Due.BEYOND, act);
        among(call, low, high, act);
    }

    /** As always, of a call that needs BROTHERS. */
    private static void among(String call, int low, int high, Due.ActWith act) {
        Due.ends("a busy object's " + call, Due::busy, low, high, Due.BEYOND, act);
        Due.ends("a full object's " + call, Due::full, low, high, Due.BEYOND, act);
    }

    /** Of an argument that is one of the BROTHERS: none, three, six. */
    private static void who(String call, Due.ActWith act) {
        Due.below("without BROTHERS " + call, ParrotVow::new, 0, Due.BEYOND, act);
        Due.above("without BROTHERS " + call, ParrotVow::new, -1, Due.BEYOND, act);
        Due.ends("of three BROTHERS " + call, Due::busy, 0, 2, Due.BEYOND, act);
        Due.ends("of six BROTHERS " + call, Due::full, 0, 5, Due.BEYOND, act);
    }

    private static void brothers() {
        always("brother(v)", 0, 69, (x, v) -> x.brother(v));
        for (int what = 0; what <= 3; what++) {
            int asked = what;
            who("brotherIs(v, " + what + ")", (x, v) -> x.brotherIs(v, asked));
        }
        among("brotherIs(2, v)", 0, 3, (x, v) -> x.brotherIs(2, v));
        who("become(v, 11)", (x, v) -> x.become(v, 11));
        among("become(2, v)", 0, 69, (x, v) -> x.become(2, v));
        who("as(v, 0)", (x, v) -> x.as(v, 0));
        among("as(2, v)", 0, 6, (x, v) -> x.as(2, v));
        who("avoids(v, 5)", (x, v) -> x.avoids(v, 5));
        among("avoids(1, v)", 0, 63, (x, v) -> x.avoids(1, v));
        who("talk(v, 5)", (x, v) -> x.talk(v, 5));
        among("talk(1, v)", 0, 63, (x, v) -> x.talk(1, v));
    }

    private static void signs() {
        always("vow(v)", 0, 728, (x, v) -> x.vow(v));
        always("sign(v, 1)", 0, 63, (x, v) -> x.sign(v, 1));
        always("sign(9, v)", 0, 1, (x, v) -> x.sign(9, v));
        int busy = Due.busy().count(1);
        Due.ends("without SIGNS forget(v)", ParrotVow::new, 0, 0, Due.BEYOND, (x, v) -> x.forget(v));
        Due.ends("of some SIGNS forget(v)", Due::busy, 0, busy, Due.BEYOND, (x, v) -> x.forget(v));
        Due.ends("of 24 SIGNS forget(v)", Due::full, 0, 24, Due.BEYOND, (x, v) -> x.forget(v));
        who("say(v, 7)", (x, v) -> x.say(v, 7));
        among("say(1, v)", 0, 63, (x, v) -> x.say(1, v));
    }

    private static void texts() {
        always("feed(97, v)", 1, 8, (x, v) -> x.feed(97L, v));
        always("text(v)", 0, 1, (x, v) -> x.text(v));
        always("untell(v)", 0, 1, (x, v) -> x.untell(v));
        always("law(v, 1, 2, 3)", 0, 1, (x, v) -> x.law(v, 1, 2, 3));
    }

    private static void days() {
        always("loose(v)", 1, 20, (x, v) -> x.loose(v));
        always("day(v)", 0, 9999, (x, v) -> x.day(v));
    }

    private static void vows() {
        always("vows(v)", 0, 3, (x, v) -> x.vows(v));
        always("parts(v)", 0, 1, (x, v) -> x.parts(v));
        always("sure(v)", 0, 63, (x, v) -> x.sure(v));
        always("unsaid(v)", 0, 1, (x, v) -> x.unsaid(v));
        always("freest(v)", 0, 1, (x, v) -> x.freest(v));
        always("odds(v, 0)", 0, 63, (x, v) -> x.odds(v, 0));
        always("odds(v, 1)", 0, 63, (x, v) -> x.odds(v, 1));
        always("odds(7, v)", 0, 1, (x, v) -> x.odds(7, v));
        always("fits(v, 0)", 0, 3, (x, v) -> x.fits(v, 0));
        always("fits(v, 1)", 0, 3, (x, v) -> x.fits(v, 1));
        always("fits(0, v)", 0, 1, (x, v) -> x.fits(0, v));
        always("fits(3, v)", 0, 1, (x, v) -> x.fits(3, v));
    }

    private static void voices() {
        for (int voice = 0; voice <= 3; voice++) {
            int heard = voice;
            who("voice(v, " + voice + ", 9)", (x, v) -> x.voice(v, heard, 9));
        }
        among("voice(2, v, 9)", 0, 3, (x, v) -> x.voice(2, v, 9));
        Due.below("a new object's body(v)", ParrotVow::new, 0, Due.NONE, (x, v) -> x.body(v));
        Due.above("a new object's body(v)", ParrotVow::new, -1, Due.NONE, (x, v) -> x.body(v));
        Due.ends("of four BODIES body(v)", Due::busy, 0, 3, Due.NONE, (x, v) -> x.body(v));
        Due.ends("of six BODIES body(v)", Due::full, 0, 5, Due.NONE, (x, v) -> x.body(v));
    }

    private static void sheets() {
        always("sheet(v, 16, 3)", 0, 3, (x, v) -> x.sheet(v, 16, 3));
        always("sheet(v, 0, 3)", 0, 3, (x, v) -> x.sheet(v, 0, 3));
        widths();
        for (int bits = 8; bits <= 32; bits *= 2) {
            int wide = bits;
            Due.ends("sheet(0, " + bits + ", v)", Due::busy, 0, 24, Due.STATE, Due.BEYOND, (x, v) -> x.sheet(0, wide, v));
        }
        always("put(v, 0, 7)", 0, 3, (x, v) -> x.put(v, 0, 7));
        Due.ends("of four numbers put(0, v, 7)", Due::busy, 0, 3, Due.BEYOND, (x, v) -> x.put(0, v, 7));
        Due.ends("of 24 numbers put(0, v, 7)", Due::full, 0, 23, Due.BEYOND, (x, v) -> x.put(0, v, 7));
        Due.below("of no numbers put(2, v, 7)", EndsTest::empty, 0, Due.BEYOND, (x, v) -> x.put(2, v, 7));
        Due.above("of no numbers put(2, v, 7)", EndsTest::empty, -1, Due.BEYOND, (x, v) -> x.put(2, v, 7));
        always("signs(v)", 0, 3, (x, v) -> x.signs(v));
        always("judge(v)", 0, 3, (x, v) -> x.judge(v));
    }

    private static void widths() {
        for (int bits = -64; bits <= 130; bits++) {
            int wide = bits;
            if (bits == 0 || bits == 8 || bits == 16 || bits == 32) {
                Due.due("sheet(3, " + bits + ", 2)", Due.busy().sheet(3, bits, 2), 1);
            } else {
                Due.refused("sheet(3, " + bits + ", 2)", Due::busy, x -> x.sheet(3, wide, 2), Due.BEYOND);
            }
        }
        for (int bits : new int[] {0, 8, 16, 32}) {
            Due.below("sheet(3, v, 2)", Due::busy, bits - 64, Due.BEYOND, (x, v) -> x.sheet(3, v, 2));
            Due.above("sheet(3, v, 2)", Due::busy, bits + 64, Due.BEYOND, (x, v) -> x.sheet(3, v, 2));
        }
    }

    private static ParrotVow empty() {
        ParrotVow x = Due.busy();
        x.sheet(2, 8, 0);
        return x;
    }

    /** SHEET 0 of four numbers, SHEET 2 of three, both of 8 bits. */
    private static void moves() {
        always("move(v, 0, 2, 0, 0)", 0, 3, (x, v) -> x.move(v, 0, 2, 0, 0));
        always("move(2, 0, v, 0, 0)", 0, 3, (x, v) -> x.move(2, 0, v, 0, 0));
        Due.ends("move(0, v, 2, 0, 1)", Due::busy, 0, 3, Due.BEYOND, (x, v) -> x.move(0, v, 2, 0, 1));
        Due.ends("move(0, v, 2, 0, 3)", Due::busy, 0, 1, Due.BEYOND, (x, v) -> x.move(0, v, 2, 0, 3));
        Due.ends("move(0, v, 2, 0, 0)", Due::busy, 0, 4, Due.BEYOND, (x, v) -> x.move(0, v, 2, 0, 0));
        Due.ends("move(0, 0, 2, v, 1)", Due::busy, 0, 2, Due.BEYOND, (x, v) -> x.move(0, 0, 2, v, 1));
        Due.ends("move(0, 0, 2, v, 3)", Due::busy, 0, 0, Due.BEYOND, (x, v) -> x.move(0, 0, 2, v, 3));
        Due.ends("move(0, 0, 2, v, 0)", Due::busy, 0, 3, Due.BEYOND, (x, v) -> x.move(0, 0, 2, v, 0));
        Due.ends("move(0, 0, 2, 0, v)", Due::busy, 0, 3, Due.BEYOND, (x, v) -> x.move(0, 0, 2, 0, v));
        Due.ends("move(2, 0, 0, 0, v)", Due::busy, 0, 3, Due.BEYOND, (x, v) -> x.move(2, 0, 0, 0, v));
        Due.ends("move(0, 2, 0, 0, v)", Due::busy, 0, 2, Due.BEYOND, (x, v) -> x.move(0, 2, 0, 0, v));
        Due.ends("move(0, 0, 0, 3, v)", Due::busy, 0, 1, Due.BEYOND, (x, v) -> x.move(0, 0, 0, 3, v));
        Due.ends("of 24 numbers move(2, 0, 3, 0, v)", Due::full, 0, 24, Due.BEYOND, (x, v) -> x.move(2, 0, 3, 0, v));
        Due.ends("of no numbers move(2, 0, 2, 0, v)", EndsTest::empty, 0, 0, Due.BEYOND, (x, v) -> x.move(2, 0, 2, 0, v));
        sumsThatWrap();
    }

    /** Where i + n or j + n as an int would be below 0, or small again. */
    private static void sumsThatWrap() {
        int most = Integer.MAX_VALUE;
        int[][] all = {{1, most}, {most, 1}, {most, most}, {4, most}, {most, 0}, {most - 3, 4}};
        for (int[] place : all) {
            Due.refused("move(0, " + place[0] + ", 2, 0, " + place[1] + ")", Due::busy,
                x -> x.move(0, place[0], 2, 0, place[1]), Due.BEYOND);
            Due.refused("move(0, 0, 2, " + place[0] + ", " + place[1] + ")", Due::busy,
                x -> x.move(0, 0, 2, place[0], place[1]), Due.BEYOND);
            Due.refused("move(0, " + place[0] + ", 0, " + place[0] + ", " + place[1] + ")", Due::busy,
                x -> x.move(0, place[0], 0, place[0], place[1]), Due.BEYOND);
        }
    }

    private static void told() {
        always("count(v)", 0, 8, (x, v) -> x.count(v));
        always("told(v)", 1, 6, (x, v) -> x.told(v));
    }
}
