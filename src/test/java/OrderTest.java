/**
 * Calls against which two or more ERRORS stand: the one that the document asks first is answered, it alone is
 * counted, and nothing else changes.
 */
final class OrderTest {
    public static void main(String[] args) {
        brothersAndSigns();
        textsAndDays();
        vows();
        voice();
        sheet();
        put();
        move();
        signsAndJudge();
        Due.end();
    }

    private static void first(String call, Due.Maker maker, long error, Due.Act act) {
        Due.refused(call, maker, act, error);
    }

    private static void brothersAndSigns() {
        first("brother: BEYOND, FULL", Due::full, Due.BEYOND, x -> x.brother(70));
        first("brother: BEYOND, FULL", Due::full, Due.BEYOND, x -> x.brother(-1));
        first("brother: FULL alone", Due::full, Due.FULL, x -> x.brother(69));
        first("as: BEYOND of the BROTHER, KIND", Due::full, Due.BEYOND, x -> x.as(6, 3));
        first("as: BEYOND of the KIND, KIND", Due::full, Due.BEYOND, x -> x.as(5, 7));
        first("as: KIND alone", Due::full, Due.KIND, x -> x.as(5, 5));
        first("sign: BEYOND of the SAYING, FULL", Due::full, Due.BEYOND, x -> x.sign(64, 0));
        first("sign: BEYOND of FELT, FULL", Due::full, Due.BEYOND, x -> x.sign(0, 2));
        first("sign: FULL alone", Due::full, Due.FULL, x -> x.sign(0, 0));
        first("say: BEYOND of the BROTHER, STATE", OrderTest::allAvoided, Due.BEYOND, x -> x.say(3, 5));
        first("say: BEYOND of the SAYING, STATE", OrderTest::allAvoided, Due.BEYOND, x -> x.say(0, 64));
        first("say: STATE alone", OrderTest::allAvoided, Due.STATE, x -> x.say(0, 5));
    }

    private static ParrotVow allAvoided() {
        ParrotVow x = Due.busy();
        x.text(0);
        Due.text(x, 0, "1");
        return x;
    }

    private static void textsAndDays() {
        first("feed: BEYOND, FULL", Due::full, Due.BEYOND, x -> x.feed(97L, 9));
        first("feed: BEYOND, FULL", Due::full, Due.BEYOND, x -> x.feed(97L, 0));
        first("feed: FULL alone", Due::full, Due.FULL, x -> x.feed(97L, 1));
        first("text: BEYOND ahead of a FAULT", OrderTest::faulty, Due.BEYOND, x -> x.text(2));
        first("text: BEYOND of an empty TAPE", ParrotVow::new, Due.BEYOND, x -> x.text(-1));
        first("loose: BEYOND, STATE", Due::full, Due.BEYOND, x -> x.loose(21));
        first("loose: BEYOND, STATE", Due::full, Due.BEYOND, x -> x.loose(Integer.MAX_VALUE));
        first("loose: BEYOND on the last DAY", Due::full, Due.BEYOND, x -> x.loose(0));
        first("loose: BEYOND on the last DAY", Due::full, Due.BEYOND, x -> x.loose(-1));
        first("loose: STATE alone", Due::full, Due.STATE, x -> x.loose(1));
    }

    private static ParrotVow faulty() {
        ParrotVow x = Due.busy();
        Due.feed(x, "++");
        return x;
    }

    private static void vows() {
        first("vows: BEYOND, NONE", Due::full, Due.BEYOND, x -> x.vows(4));
        first("vows: BEYOND, NONE", Due::full, Due.BEYOND, x -> x.vows(-1));
        for (int what = 1; what <= 3; what++) {
            int asked = what;
            first("vows(" + what + "): NONE alone", Due::full, Due.NONE, x -> x.vows(asked));
        }
        first("sure: BEYOND, NONE", ParrotVow::new, Due.BEYOND, x -> x.sure(64));
        first("sure: BEYOND, NONE", ParrotVow::new, Due.BEYOND, x -> x.sure(-1));
        first("sure: NONE alone", ParrotVow::new, Due.NONE, x -> x.sure(63));
        first("freest: BEYOND, STATE", ParrotVow::new, Due.BEYOND, x -> x.freest(2));
        first("freest: BEYOND, STATE", ParrotVow::new, Due.BEYOND, x -> x.freest(-1));
        first("freest(0): STATE alone", ParrotVow::new, Due.STATE, x -> x.freest(0));
        first("freest(1): STATE alone", ParrotVow::new, Due.STATE, x -> x.freest(1));
        first("odds: BEYOND of the SAYING, STATE", Due::full, Due.BEYOND, x -> x.odds(64, 0));
        first("odds: BEYOND of the part, STATE", Due::full, Due.BEYOND, x -> x.odds(0, 2));
        first("odds(.., 0): STATE alone", Due::full, Due.STATE, x -> x.odds(0, 0));
        first("odds(.., 1): STATE alone", Due::full, Due.STATE, x -> x.odds(63, 1));
        first("fits: BEYOND of what, NONE of the SHEET", ParrotVow::new, Due.BEYOND, x -> x.fits(0, 2));
        first("fits: BEYOND of the SHEET, whatever what", ParrotVow::new, Due.BEYOND, x -> x.fits(4, 1));
        first("fits: BEYOND of what, NONE that FITS", Due::full, Due.BEYOND, x -> x.fits(0, -1));
        first("fits(.., 0): NONE of the SHEET", ParrotVow::new, Due.NONE, x -> x.fits(0, 0));
        first("fits(.., 1): NONE of the SHEET", ParrotVow::new, Due.NONE, x -> x.fits(0, 1));
        first("fits(.., 1): NONE that FITS", Due::full, Due.NONE, x -> x.fits(0, 1));
        Due.idle("fits(.., 0) of none that FITS", Due::full, x -> x.fits(0, 0), 0);
    }

    /** BROTHER 2 is given m 2, so that he parts. */
    private static ParrotVow parting() {
        ParrotVow x = Due.busy();
        x.become(2, 2);
        return x;
    }

    private static void voice() {
        first("voice: BEYOND of the voice, of one who parts", OrderTest::parting, Due.BEYOND, x -> x.voice(2, 4, 3));
        first("voice: BEYOND of the BROTHER who would part", OrderTest::parting, Due.BEYOND, x -> x.voice(3, 3, 3));
        ParrotVow x = parting();
        Due.due("voice(2, 3, 3): PARTED alone", x.voice(2, 3, 3), Due.PARTED);
        Due.due("told(6)", x.told(6), 1);
        Due.due("told(1)", x.told(1), 0);
    }

    private static void sheet() {
        first("sheet: BEYOND of the SHEET, STATE", Due::busy, Due.BEYOND, x -> x.sheet(4, 8, -1));
        first("sheet: BEYOND of the SHEET, STATE", Due::busy, Due.BEYOND, x -> x.sheet(-1, 8, -1));
        first("sheet: BEYOND of bits, STATE", Due::busy, Due.BEYOND, x -> x.sheet(0, 24, -1));
        first("sheet: BEYOND of bits, STATE", Due::busy, Due.BEYOND, x -> x.sheet(0, -8, -1));
        first("sheet: BEYOND of the SHEET though it would be missing", Due::busy, Due.BEYOND, x -> x.sheet(4, 0, -1));
        first("sheet: STATE, ahead of BEYOND of n", Due::busy, Due.STATE, x -> x.sheet(0, 8, -1));
        first("sheet: STATE of the least n", Due::busy, Due.STATE, x -> x.sheet(0, 8, Integer.MIN_VALUE));
        first("sheet: BEYOND of n alone", Due::busy, Due.BEYOND, x -> x.sheet(0, 8, 25));
    }

    private static void put() {
        first("put: BEYOND of the SHEET", Due::busy, Due.BEYOND, x -> x.put(4, -1, 1));
        first("put: NONE, BEYOND of the number", Due::busy, Due.NONE, x -> x.put(3, -1, 1));
        first("put: NONE, BEYOND of the number", Due::busy, Due.NONE, x -> x.put(3, 24, 1));
        first("put: BEYOND of the number alone", Due::busy, Due.BEYOND, x -> x.put(0, 4, 1));
    }

    /** SHEETS 0 and 2 are of 8 bits, 1 is of 16, 3 is missing. */
    private static void move() {
        first("move: BEYOND of the one, NONE of the other", Due::busy, Due.BEYOND, x -> x.move(4, 0, 3, 0, 1));
        first("move: BEYOND of the other, NONE of the one", Due::busy, Due.BEYOND, x -> x.move(3, 0, 4, 0, 1));
        first("move: BEYOND of the other, BEYOND of n", Due::busy, Due.BEYOND, x -> x.move(0, 0, 4, 0, -1));
        first("move: NONE of the one, KIND", Due::busy, Due.NONE, x -> x.move(3, 0, 1, 0, 1));
        first("move: NONE of the other, KIND", Due::busy, Due.NONE, x -> x.move(1, 0, 3, 0, 1));
        first("move: NONE of both", Due::busy, Due.NONE, x -> x.move(3, 0, 3, 0, 0));
        first("move: NONE, BEYOND of n", Due::busy, Due.NONE, x -> x.move(0, 0, 3, 0, -1));
        first("move: NONE, BEYOND of i", Due::busy, Due.NONE, x -> x.move(3, -1, 0, 0, 1));
        first("move: NONE, BEYOND of j", Due::busy, Due.NONE, x -> x.move(0, 0, 3, -1, 1));
        first("move: KIND, BEYOND of n", Due::busy, Due.KIND, x -> x.move(0, 0, 1, 0, -1));
        first("move: KIND, BEYOND of i", Due::busy, Due.KIND, x -> x.move(0, -1, 1, 0, 1));
        first("move: KIND, BEYOND of j", Due::busy, Due.KIND, x -> x.move(1, 0, 0, 9, 1));
        first("move: KIND of no numbers at all", Due::busy, Due.KIND, x -> x.move(1, 0, 2, 0, 0));
        first("move: BEYOND of n alone", Due::busy, Due.BEYOND, x -> x.move(0, 0, 2, 0, 4));
    }

    private static void signsAndJudge() {
        first("signs: BEYOND without any SHEET", ParrotVow::new, Due.BEYOND, x -> x.signs(4));
        first("signs: NONE", ParrotVow::new, Due.NONE, x -> x.signs(0));
        first("signs: NONE where there is no room", OrderTest::fullButASheet, Due.NONE, x -> x.signs(3));
        first("judge: BEYOND without any SHEET", ParrotVow::new, Due.BEYOND, x -> x.judge(-1));
        first("judge: NONE", ParrotVow::new, Due.NONE, x -> x.judge(3));
        first("judge: NONE where no VOW FITS", OrderTest::fullButASheet, Due.NONE, x -> x.judge(3));
    }

    private static ParrotVow fullButASheet() {
        ParrotVow x = Due.full();
        x.sheet(3, 0, 0);
        return x;
    }
}
