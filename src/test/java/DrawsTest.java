/** BY DRAWS a DAY at its edges: seeds worked out backwards from the draw that is wanted. */
final class DrawsTest {
    private static final int TIMES = 1103515245;
    private static final int MORE = 12345;

    public static void main(String[] args) {
        back();
        slips();
        who();
        sayings();
        drawsWithoutSaying();
        noBrothers();
        dayByDay();
        seeds();
        Due.end();
    }

    private static int next(int z) {
        return z * TIMES + MORE;
    }

    /** The z ahead of z: TIMES is odd, so that it has an inverse among the ints. */
    private static int ahead(int z) {
        int inverse = TIMES;
        for (int i = 0; i < 5; i++) {
            inverse *= 2 - TIMES * inverse;
        }
        return (z - MORE) * inverse;
    }

    /** The seed by which the draw-th draw (1, 2, 3) gives what is wanted. */
    private static int seedFor(int draw, int wanted, int lowest) {
        int z = wanted << 8 | lowest;
        for (int i = 0; i < draw; i++) {
            z = ahead(z);
        }
        return z;
    }

    private static int drawn(int seed, int draw) {
        int z = seed;
        for (int i = 0; i < draw; i++) {
            z = next(z);
        }
        return z >>> 8;
    }

    private static void back() {
        int[] wanted = {0, 1, 16, 8388607, 8388608, 16777215};
        for (int v : wanted) {
            for (int draw = 1; draw <= 3; draw++) {
                Due.due("draw " + draw + " as wanted", drawn(seedFor(draw, v, 77), draw), v);
            }
        }
    }

    /** BROTHERS who AVOID nothing. */
    private static ParrotVow bold(int many) {
        ParrotVow x = new ParrotVow();
        for (int i = 0; i < many; i++) {
            x.brother(10 * i);
        }
        Due.text(x, 0, "0");
        return x;
    }

    /** The VOW that tells of mark 0 alone, and not as the SAYING has it. */
    private static int unbrokenBy(int saying) {
        return 726 + (saying % 2 == 0 ? 1 : 0);
    }

    private static void slips() {
        int[] third = {0, 1, 8, 15, 16, 17, 31, 32, 48, 16777200, 16777199, 16777215, 8388608, 8388607};
        for (int draw : third) {
            for (int breaks = 0; breaks <= 1; breaks++) {
                ParrotVow x = bold(1);
                x.seed(seedFor(3, draw, 255));
                int saying = drawn(seedFor(3, draw, 255), 2) % 64;
                x.vow(breaks == 1 ? 728 : unbrokenBy(saying));
                int felt = draw % 16 == 0 ? 1 - breaks : breaks;
                String call = "loose(1), third draw " + draw + ", breaks " + breaks;
                Due.due(call, x.loose(1), felt);
                Due.due(call + ": F", x.vows(0), felt == 1 ? 64 : 665);
                Due.due(call + ": B of it", x.odds(saying, 0), felt);
                Due.due(call + ": z", x.count(8), draw << 8 | 255);
                Due.due(call + ": SAID", x.brotherIs(0, 2), 1);
            }
        }
    }

    private static void who() {
        int[] first = {0, 1, 2, 3, 4, 5, 6, 7, 8388607, 8388608, 8388609, 16777214, 16777215};
        for (int many = 1; many <= 6; many++) {
            for (int draw : first) {
                ParrotVow x = bold(many);
                x.seed(seedFor(1, draw, 0));
                x.loose(1);
                for (int i = 0; i < many; i++) {
                    Due.due("first draw " + draw + " of " + many + ", SAID of " + i, x.brotherIs(i, 2),
                        draw % many == i ? 1 : 0);
                }
            }
        }
    }

    /** THE VOW is such that the one SAYING alone BREAKS it. */
    private static void sayings() {
        int[] second = {0, 1, 63, 64, 65, 127, 8388607, 8388608, 16777215};
        for (int draw : second) {
            int saying = draw % 64;
            ParrotVow x = bold(1);
            int vow = 0;
            for (int k = 5; k >= 0; k--) {
                vow = 3 * vow + (saying >> k) % 2;
            }
            x.vow(vow);
            int seed = seedFor(2, draw, 128);
            x.seed(seed);
            int felt = drawn(seed, 3) % 16 == 0 ? 0 : 1;
            Due.due("second draw " + draw + ": FELT", x.loose(1), felt);
            Due.due("second draw " + draw + ": B", x.odds(saying, 0), felt);
        }
    }

    /** He AVOIDS it: the three draws are done, the DAY goes on, and that is all. */
    private static void drawsWithoutSaying() {
        ParrotVow x = bold(1);
        x.text(0);
        Due.text(x, 0, "1");
        x.seed(4);
        Due.due("loose(20), all AVOIDED", x.loose(20), 0);
        int z = 4;
        for (int i = 0; i < 60; i++) {
            z = next(z);
        }
        Due.due("z after 60 draws", x.count(8), z);
        Due.due("DAY", x.count(2), 20);
        Due.due("SAID", x.brotherIs(0, 2), 0);
        Due.due("WORTH", x.count(3), 0);
        Due.due("SIGNS", x.count(1), 0);
    }

    private static void noBrothers() {
        ParrotVow x = new ParrotVow();
        Due.due("loose(1) without BROTHERS", x.loose(1), 0);
        Due.due("DAY", x.count(2), 1);
        Due.due("loose(20) without BROTHERS", x.loose(20), 0);
        Due.due("DAY", x.count(2), 21);
        Due.due("nothing drawn", x.count(8), 1);
        Due.due("SIGNS", x.count(1), 0);
        x.brother(60);
        x.loose(1);
        Due.due("z after the first three from 1", x.count(8), next(next(next(1))));
    }

    private static ParrotVow tuesday() {
        ParrotVow x = new ParrotVow();
        x.brother(30);
        x.sign(5, 1);
        Due.text(x, 1, "d");
        x.day(6);
        x.seed(9);
        return x;
    }

    /** Within one loose(), too, each DAY is as it was ahead of its end: TUESDAY's DAY, and d in TALK. */
    private static void dayByDay() {
        ParrotVow x = tuesday();
        int said = 0;
        int worth = 0;
        int z = 9;
        for (int day = 6; day < 26; day++) {
            int saying = (next(next(z)) >>> 8) % 64;
            int says = 1 - x.avoids(0, saying);
            z = next(next(next(z)));
            said += says;
            worth += says * (day % 7);
            x.loose(1);
            Due.due("DAY " + day + ": SAID", x.brotherIs(0, 2), said);
            Due.due("DAY " + day + ": WORTH", x.count(3), worth);
            Due.due("DAY " + day + ": DAY", x.count(2), day + 1);
        }
        Due.due("some DAYS he AVOIDS what was drawn", said < 20 ? 1 : 0, 1);
        ParrotVow whole = tuesday();
        whole.loose(20);
        Due.due("in one call: SAID", whole.brotherIs(0, 2), said);
        Due.due("in one call: WORTH", whole.count(3), worth);
        Due.due("in one call: z", whole.count(8), z);
    }

    private static void seeds() {
        int[] all = {Integer.MIN_VALUE, Integer.MAX_VALUE, -1, 0, 1, Due.BEYOND, Due.PARTED};
        ParrotVow x = bold(1);
        int was = 1;
        for (int v : all) {
            Due.due("seed(" + v + ")", x.seed(v), was);
            Due.due("count(8)", x.count(8), v);
            x.loose(1);
            was = next(next(next(v)));
            Due.due("z after a DAY", x.count(8), was);
        }
        Due.due("no ERROR", x.told(1) + x.told(6), 0);
    }
}
