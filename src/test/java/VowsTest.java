/** Promises 19 to 25: what is known of THE VOW. */
final class VowsTest {
    public static void main(String[] args) {
        vows();
        parts();
        sure();
        unsaid();
        freest();
        odds();
        fits();
        Due.end();
    }

    private static ParrotVow withSigns(int... felt) {
        ParrotVow x = new ParrotVow();
        for (int s : felt) {
            x.sign(s, 1);
        }
        return x;
    }

    private static ParrotVow withNone() {
        ParrotVow x = Due.busy();
        x.sign(8, 1);
        x.sign(8, 0);
        return x;
    }

    private static void vows() {
        ParrotVow x = withSigns(5);
        int[] wants = {64, 10, 728, 0};
        for (int what = 0; what <= 3; what++) {
            Due.due("vows(" + what + ") after 5", x.vows(what), wants[what]);
        }
        x.sign(0, 0);
        int[] then = {48, 10, 728 - 9, 1};
        for (int what = 0; what <= 3; what++) {
            Due.due("vows(" + what + ") after 5, not 0", x.vows(what), then[what]);
        }
        x.sign(1, 0);
        x.sign(4, 0);
        int[] last = {16, 10, 728 - 1 - 9, 2};
        for (int what = 0; what <= 3; what++) {
            Due.due("vows(" + what + ") after 5, not 0, 1, 4", x.vows(what), last[what]);
        }
        onlyOne(5, 1 + 9);
        onlyOne(0, 0);
        onlyOne(63, 364);
        Due.due("vows(0) of none", withNone().vows(0), 0);
        for (int what = 1; what <= 3; what++) {
            int asked = what;
            Due.refused("vows(" + what + ") of none", VowsTest::withNone, y -> y.vows(asked), Due.NONE);
        }
        Due.refused("vows(4) of none", VowsTest::withNone, y -> y.vows(4), Due.BEYOND);
        Due.refused("vows(4)", Due::busy, y -> y.vows(4), Due.BEYOND);
        Due.refused("vows(-1)", Due::busy, y -> y.vows(-1), Due.BEYOND);
        Due.idle("vows(0)", Due::busy, y -> y.vows(0), Due.busy().vows(0));
    }

    /** Where one SAYING is FELT and all that differ by one mark are not, one VOW is left. */
    private static void onlyOne(int s, int vow) {
        ParrotVow x = withSigns(s);
        for (int k = 0; k < 6; k++) {
            x.sign(s ^ 1 << k, 0);
        }
        int[] wants = {1, vow, vow, 6};
        for (int what = 0; what <= 3; what++) {
            Due.due("vows(" + what + ") of " + s + " alone", x.vows(what), wants[what]);
        }
    }

    private static void parts() {
        ParrotVow x = new ParrotVow();
        Due.due("parts(0)", x.parts(0), 0);
        Due.due("parts(1)", x.parts(1), 64);
        x.sign(5, 1);
        Due.due("parts(0) after 5", x.parts(0), 1);
        Due.due("parts(1) after 5", x.parts(1), 32);
        x.sign(1, 1);
        Due.due("parts(0) after 5, 1", x.parts(0), 0);
        Due.due("parts(1) after 5, 1", x.parts(1), 16);
        Due.due("parts(0) of none", withNone().parts(0), 0);
        Due.due("parts(1) of none", withNone().parts(1), 0);
        Due.refused("parts(2)", Due::busy, y -> y.parts(2), Due.BEYOND);
        Due.refused("parts(-1)", Due::busy, y -> y.parts(-1), Due.BEYOND);
    }

    private static void sure() {
        ParrotVow x = withSigns(63);
        Due.due("sure(0) after 63", x.sure(0), Due.NONE);
        x.sign(62, 0);
        x.sign(5, 0);
        Due.due("sure(0): 0 has no mark 0", x.sure(0), 0);
        Due.due("sure(1)", x.sure(1), 1);
        Due.due("sure(2)", x.sure(2), 2);
        Due.due("sure(3)", x.sure(3), Due.NONE);
        Due.due("sure(4)", x.sure(4), 4);
        Due.due("sure(12)", x.sure(12), 12);
        Due.due("sure(63)", x.sure(63), Due.NONE);
        ParrotVow gaps = new ParrotVow();
        gaps.sign(22, 0);
        gaps.sign(44, 0);
        Due.due("sure(0): the least unfelt", gaps.sure(0), 22);
        Due.due("sure(4)", gaps.sure(4), 22);
        Due.due("sure(8)", gaps.sure(8), 44);
        Due.due("sure(22)", gaps.sure(22), 22);
        Due.due("sure(24)", gaps.sure(24), Due.NONE);
        Due.due("sure(41) of none", withNone().sure(41), 41);
        Due.refused("sure(1)", () -> withSigns(63), y -> y.sure(1), Due.NONE);
        Due.refused("sure(64)", Due::busy, y -> y.sure(64), Due.BEYOND);
        Due.refused("sure(-1)", Due::busy, y -> y.sure(-1), Due.BEYOND);
    }

    private static void unsaid() {
        ParrotVow x = withSigns(63);
        Due.due("unsaid(0) without BROTHERS", x.unsaid(0), 0);
        Due.due("unsaid(1) without BROTHERS", x.unsaid(1), 0);
        x.brother(10);
        Due.due("unsaid(0): CAREFUL", x.unsaid(0), -1L);
        Due.due("unsaid(1): CAREFUL", x.unsaid(1), 64);
        x.brother(4);
        long seven = 1L << 63;
        for (int k = 0; k < 6; k++) {
            seven |= 1L << (63 - (1 << k));
        }
        Due.due("unsaid(0): those of B 32 and 64, too", x.unsaid(0), seven);
        Due.due("unsaid(1)", x.unsaid(1), 7);
        x.brother(61);
        Due.due("unsaid(0): LAY 1", x.unsaid(0), 0);
        ParrotVow lay = new ParrotVow();
        lay.brother(64);
        lay.sign(4, 0);
        Due.due("unsaid(0): LAY 4, who AVOIDS what breaks nothing", lay.unsaid(0), 16);
        ParrotVow errors = new ParrotVow();
        errors.brother(60);
        Due.text(errors, 0, "0");
        Due.due("unsaid(0): none", errors.unsaid(0), 0);
        Due.due("told(1)", errors.told(1), 0);
        Due.refused("unsaid(2)", Due::busy, y -> y.unsaid(2), -1000000001L);
        Due.refused("unsaid(-1)", Due::busy, y -> y.unsaid(-1), -1000000001L);
    }

    private static void freest() {
        ParrotVow x = new ParrotVow();
        Due.due("freest(0) without BROTHERS", x.freest(0), Due.STATE);
        Due.due("freest(2) without BROTHERS", x.freest(2), Due.BEYOND);
        x.brother(3);
        x.brother(62);
        x.brother(4);
        x.brother(4);
        Due.due("freest(0), all alike", x.freest(0), 0);
        Due.due("freest(1), all alike", x.freest(1), 0);
        x.sign(2, 0);
        x.sign(7, 0);
        Due.due("freest(0): of two the least", x.freest(0), 2);
        Due.due("freest(1): 1 + 4 and 3 + 4", x.freest(1), 12);
        x.become(1, 69);
        x.day(1);
        Due.due("freest(0): LAY 9", x.freest(0), 1);
        Due.due("freest(1): 1 + 9 + 1 and 3 + 9 + 1", x.freest(1), 24);
        x.become(1, 67);
        Due.due("freest(0): LAY 7, who AVOIDS 7", x.freest(0), 2);
        x.sign(2, 1);
        Due.due("none FITS: freest(0)", x.freest(0), 1);
        ParrotVow mute = new ParrotVow();
        mute.brother(40);
        mute.sign(3, 0);
        Due.due("a MUTE alone: freest(0)", mute.freest(0), 0);
        Due.due("a MUTE alone: freest(1)", mute.freest(1), 0);
        Due.refused("freest(0)", ParrotVow::new, y -> y.freest(0), Due.STATE);
        Due.refused("freest(2)", Due::busy, y -> y.freest(2), Due.BEYOND);
        Due.refused("freest(-1)", Due::busy, y -> y.freest(-1), Due.BEYOND);
    }

    private static void odds(ParrotVow x, int saying, int above, int below) {
        Due.due("odds(" + saying + ", 0)", x.odds(saying, 0), above);
        Due.due("odds(" + saying + ", 1)", x.odds(saying, 1), below);
    }

    private static void odds() {
        odds(new ParrotVow(), 63, 64, 729);
        ParrotVow x = withSigns(5);
        odds(x, 5, 1, 1);
        odds(x, 4, 1, 2);
        odds(x, 58, 1, 64);
        x.sign(58, 0);
        odds(x, 58, 0, 1);
        odds(x, 4, 31, 63);
        odds(x, 6, 5, 21);
        Due.refused("odds(5, 0) of none", VowsTest::withNone, y -> y.odds(5, 0), Due.STATE);
        Due.refused("odds(64, 0) of none", VowsTest::withNone, y -> y.odds(64, 0), Due.BEYOND);
        Due.refused("odds(5, 2) of none", VowsTest::withNone, y -> y.odds(5, 2), Due.BEYOND);
        Due.refused("odds(64, 0)", Due::busy, y -> y.odds(64, 0), Due.BEYOND);
        Due.refused("odds(-1, 0)", Due::busy, y -> y.odds(-1, 0), Due.BEYOND);
        Due.refused("odds(0, 2)", Due::busy, y -> y.odds(0, 2), Due.BEYOND);
        Due.refused("odds(0, -1)", Due::busy, y -> y.odds(0, -1), Due.BEYOND);
    }

    private static void fits() {
        ParrotVow x = withSigns(5);
        Due.sheet(x, 0, 8, 0, 1, 0, 0, 0, 1);
        Due.due("fits(0, 0)", x.fits(0, 0), 8);
        Due.due("fits(0, 1)", x.fits(0, 1), 1 + 2 * 9);
        Due.sheet(x, 1, 16);
        Due.due("fits of no numbers", x.fits(1, 0), 64);
        Due.due("fits of no numbers", x.fits(1, 1), 10);
        Due.sheet(x, 2, 32, 0, 1, 0, 0, 0, -1);
        Due.due("fits with -1", x.fits(2, 0), 0);
        Due.due("fits with -1", x.fits(2, 1), Due.NONE);
        Due.sheet(x, 2, 32, 0, 2);
        Due.due("fits with 2", x.fits(2, 0), 0);
        Due.sheet(x, 3, 32, new int[24]);
        Due.due("fits of 24 times 0", x.fits(3, 0), 0);
        x.put(3, 5, 1);
        Due.due("fits of 5 alone", x.fits(3, 0), 2);
        Due.due("fits of 5 alone", x.fits(3, 1), 10);
        Due.sheet(x, 2, 8, 2, 0, 0);
        Due.due("fits with 2 ahead", x.fits(2, 0), 0);
        ParrotVow fresh = new ParrotVow();
        Due.sheet(fresh, 0, 8, 1);
        Due.due("fits of 0", fresh.fits(0, 0), 64);
        Due.due("fits of 0", fresh.fits(0, 1), 0);
        fresh.put(0, 0, 0);
        Due.due("fits of not 0", fresh.fits(0, 0), 665);
        Due.due("fits of not 0", fresh.fits(0, 1), 1);
        Due.refused("fits(3, 0) missing", Due::busy, y -> y.fits(3, 0), Due.NONE);
        Due.refused("fits(3, 2) missing", Due::busy, y -> y.fits(3, 2), Due.BEYOND);
        Due.refused("fits(1, 1)", Due::busy, y -> y.fits(1, 1), Due.NONE);
        Due.refused("fits(4, 0)", Due::busy, y -> y.fits(4, 0), Due.BEYOND);
        Due.refused("fits(-1, 0)", Due::busy, y -> y.fits(-1, 0), Due.BEYOND);
        Due.refused("fits(0, 2)", Due::busy, y -> y.fits(0, 2), Due.BEYOND);
        Due.refused("fits(0, -1)", Due::busy, y -> y.fits(0, -1), Due.BEYOND);
    }
}
