/** Promises 16 to 18: DAYS BY DRAWS, DAY, and z. */
final class DaysTest {
    public static void main(String[] args) {
        loose();
        looseByDraws();
        day();
        seed();
        Due.end();
    }

    private static void loose() {
        ParrotVow x = new ParrotVow();
        Due.due("loose(20) without BROTHERS", x.loose(20), 0);
        Due.due("DAY", x.count(2), 20);
        Due.due("z stays", x.count(8), 1);
        x.day(9979);
        Due.due("loose(20) up to 9999", x.loose(20), 0);
        Due.due("DAY", x.count(2), 9999);
        Due.due("loose(1) from 9999", x.loose(1), Due.STATE);
        Due.due("loose(21) from 9999", x.loose(21), Due.BEYOND);
        Due.refused("loose(0)", Due::busy, y -> y.loose(0), Due.BEYOND);
        Due.refused("loose(21)", Due::busy, y -> y.loose(21), Due.BEYOND);
        Due.refused("loose(-1)", Due::busy, y -> y.loose(-1), Due.BEYOND);
        Due.refused("loose(3) from 9997", DaysTest::late, y -> y.loose(3), Due.STATE);
    }

    private static ParrotVow late() {
        ParrotVow x = Due.busy();
        x.day(9997);
        return x;
    }

    /** The draws worked out here, one BROTHER who AVOIDS one SAYING and one who AVOIDS none. */
    private static void looseByDraws() {
        for (int seed = -40; seed < 40; seed++) {
            ParrotVow x = new ParrotVow();
            x.brother(65);
            x.brother(20);
            x.vow(485);
            x.seed(seed);
            int z = seed;
            int felt = 0;
            int[] said = new int[2];
            for (int i = 0; i < 20; i++) {
                z = z * 1103515245 + 12345;
                int who = (z >>> 8) % 2;
                z = z * 1103515245 + 12345;
                int saying = (z >>> 8) % 64;
                z = z * 1103515245 + 12345;
                boolean slip = (z >>> 8) % 16 == 0;
                if (who == 0 ? saying != 5 : x.avoids(1, saying) == 0) {
                    felt += saying >= 32 != slip ? 1 : 0;
                    said[who]++;
                }
                felt -= x.loose(1);
                Due.due("SIGNS", x.count(1), Math.min(24, said[0] + said[1]));
            }
            Due.due("seed " + seed + ": FELT", felt, 0);
            Due.due("seed " + seed + ": z", x.count(8), z);
            Due.due("seed " + seed + ": SAID of 0", x.brotherIs(0, 2), said[0]);
            Due.due("seed " + seed + ": SAID of 1", x.brotherIs(1, 2), said[1]);
            Due.due("seed " + seed + ": DAY", x.count(2), 20);
            asOneCall(seed, x);
        }
    }

    private static void asOneCall(int seed, ParrotVow days) {
        ParrotVow x = new ParrotVow();
        x.brother(65);
        x.brother(20);
        x.vow(485);
        x.seed(seed);
        x.loose(20);
        Due.due("loose(20) as 20 times loose(1)", Due.seen(x), Due.seen(days));
    }

    private static void day() {
        ParrotVow x = new ParrotVow();
        Due.due("day(9999)", x.day(9999), 0);
        Due.due("day(0)", x.day(0), 9999);
        Due.due("day(7)", x.day(7), 0);
        Due.due("count(2)", x.count(2), 7);
        Due.refused("day(10000)", Due::busy, y -> y.day(10000), Due.BEYOND);
        Due.refused("day(-1)", Due::busy, y -> y.day(-1), Due.BEYOND);
    }

    private static void seed() {
        ParrotVow x = new ParrotVow();
        Due.due("seed(-5)", x.seed(-5), 1);
        Due.due("seed(an ERROR's number)", x.seed(Due.NONE), -5);
        Due.due("seed(0)", x.seed(0), Due.NONE);
        Due.due("told(2)", x.told(2), 0);
        Due.due("count(8)", x.count(8), 0);
        x.brother(60);
        x.loose(1);
        Due.due("z after three draws from 0", x.count(8), ((12345 * 1103515245) + 12345) * 1103515245 + 12345);
    }
}
