/** Promises 28 to 32: SHEETS, and what their numbers can be. */
final class SheetsTest {
    public static void main(String[] args) {
        sheet();
        sheetAgain();
        sheetGoneAndBack();
        put();
        move();
        moveOverItself();
        moveOfAll();
        signs();
        judge();
        Due.end();
    }

    private static void sheet() {
        ParrotVow x = new ParrotVow();
        for (int bits = 8; bits <= 32; bits *= 2) {
            Due.due("sheet(3, " + bits + ", 24)", x.sheet(3, bits, 24), 1);
            Due.due("put of the last", x.put(3, 23, 1), 1);
        }
        Due.due("sheet(0, 8, 0)", x.sheet(0, 8, 0), 1);
        Due.due("put there", x.put(0, 0, 1), Due.BEYOND);
        Due.due("sheet(0, 0, -9)", x.sheet(0, 0, -9), 1);
        Due.due("put there", x.put(0, 0, 1), Due.NONE);
        Due.due("sheet(0, 0, 99)", x.sheet(0, 0, 99), 1);
        Due.due("sheet(1, 8, 2)", x.sheet(1, 8, 2), 1);
        x.put(1, 0, 1);
        Due.due("sheet(1, 8, 3) again", x.sheet(1, 8, 3), 1);
        Due.due("all 0: signs(1)", x.signs(1), 3);
        x.sheet(1, 8, 1);
        x.sheet(1, 8, 3);
        Due.due("all 0 again: as a table", x.fits(1, 0), 0);
        x.forget(3);
        Due.due("all 0 again: as a table", x.fits(1, 0), 729 - 3 * 64 + 2 * 32 + 16 - 16);
        Due.refused("sheet(4, 8, 1)", Due::busy, y -> y.sheet(4, 8, 1), Due.BEYOND);
        Due.refused("sheet(-1, 8, 1)", Due::busy, y -> y.sheet(-1, 8, 1), Due.BEYOND);
        Due.refused("sheet(4, 0, 1)", Due::busy, y -> y.sheet(4, 0, 1), Due.BEYOND);
        Due.refused("sheet(0, 7, 1)", Due::busy, y -> y.sheet(0, 7, 1), Due.BEYOND);
        Due.refused("sheet(0, -8, 1)", Due::busy, y -> y.sheet(0, -8, 1), Due.BEYOND);
        Due.refused("sheet(0, 64, 1)", Due::busy, y -> y.sheet(0, 64, 1), Due.BEYOND);
        Due.refused("sheet(0, 7, -1)", Due::busy, y -> y.sheet(0, 7, -1), Due.BEYOND);
        Due.refused("sheet(4, 8, -1)", Due::busy, y -> y.sheet(4, 8, -1), Due.BEYOND);
        Due.refused("sheet(0, 16, -1)", Due::busy, y -> y.sheet(0, 16, -1), Due.STATE);
        Due.refused("sheet(0, 16, 25)", Due::busy, y -> y.sheet(0, 16, 25), Due.BEYOND);
    }

    /** All numbers are 0 again, by as many of the same bits, too; and by none, then as many. */
    private static void sheetAgain() {
        int[][] again = {{8, 2}, {16, 2}, {32, 2}, {8, 3}, {8, 1}, {8, 24}, {8, 0}};
        for (int[] one : again) {
            ParrotVow x = new ParrotVow();
            Due.sheet(x, 2, 8, 64, 64);
            Due.due("judge(2) ahead", x.judge(2), 2);
            Due.due("sheet(2, " + one[0] + ", " + one[1] + ")", x.sheet(2, one[0], one[1]), 1);
            Due.due("judge(2): not 64", x.judge(2), 0);
            Due.due("signs(2): all 0", x.signs(2), one[1]);
            Due.due("F", x.vows(0), one[1] == 0 ? 729 : 64);
            Due.due("put of one behind", x.put(2, one[1], 0), Due.BEYOND);
            x.sheet(2, 8, 2);
            Due.due("judge(2): not 64", x.judge(2), 0);
        }
    }

    private static void sheetGoneAndBack() {
        ParrotVow x = new ParrotVow();
        for (int sheet = 0; sheet < 4; sheet++) {
            Due.sheet(x, sheet, 8, 64);
        }
        int[] ns = {0, -1, Integer.MIN_VALUE, Integer.MAX_VALUE};
        for (int sheet = 0; sheet < 4; sheet++) {
            Due.due("sheet(" + sheet + ", 0, " + ns[sheet] + ")", x.sheet(sheet, 0, ns[sheet]), 1);
            Due.due("judge of it", x.judge(sheet), Due.NONE);
            Due.due("put of it", x.put(sheet, 0, 1), Due.NONE);
            Due.due("signs of it", x.signs(sheet), Due.NONE);
            Due.due("fits of it", x.fits(sheet, 0), Due.NONE);
            Due.due("move of it", x.move(sheet, 0, sheet, 0, 0), Due.NONE);
            Due.due("missing already", x.sheet(sheet, 0, 25), 1);
            for (int other = sheet + 1; other < 4; other++) {
                Due.due("judge of another", x.judge(other), 1);
            }
        }
        x.sheet(1, 8, 1);
        Due.due("it is all 0 when it is back", x.signs(1), 1);
    }

    private static void put(int bits, int v, int saidAs) {
        ParrotVow x = new ParrotVow();
        Due.sheet(x, 0, bits, 1, v);
        Due.due("put(0, 1, " + v + ") of " + bits + " bits: signs(0)", x.signs(0), saidAs < 0 ? 1 : 2);
        if (saidAs >= 0) {
            ParrotVow y = new ParrotVow();
            y.sign(1, 1);
            y.sign(saidAs, 1);
            Due.due("as SAYING " + saidAs, x.vows(1), y.vows(1));
        }
    }

    private static void put() {
        put(8, 63, 63);
        put(8, 256 + 5, 5);
        put(8, 128, -1);
        put(8, -1, -1);
        put(8, 64, -1);
        put(8, -256 + 9, 9);
        put(16, 256 + 5, -1);
        put(16, 65536 + 5, 5);
        put(16, 32768, -1);
        put(32, 65536 + 5, -1);
        put(32, 33, 33);
        Due.refused("put(4, 0, 1)", Due::busy, y -> y.put(4, 0, 1), Due.BEYOND);
        Due.refused("put(-1, 0, 1)", Due::busy, y -> y.put(-1, 0, 1), Due.BEYOND);
        Due.refused("put(3, 0, 1)", Due::busy, y -> y.put(3, 0, 1), Due.NONE);
        Due.refused("put(3, 99, 1)", Due::busy, y -> y.put(3, 99, 1), Due.NONE);
        Due.refused("put(0, 4, 1)", Due::busy, y -> y.put(0, 4, 1), Due.BEYOND);
        Due.refused("put(0, -1, 1)", Due::busy, y -> y.put(0, -1, 1), Due.BEYOND);
    }

    /** The numbers of a SHEET from 32 bits, read one by one through signs(). */
    private static String numbers(ParrotVow x, int sheet, int n) {
        StringBuilder all = new StringBuilder();
        for (int i = 0; i < n; i++) {
            x.sheet(3, 32, 1);
            x.move(sheet, i, 3, 0, 1);
            int found = -1;
            for (int s = 0; s < 64 && found < 0; s++) {
                x.forget(x.count(1));
                x.vow(x.count(4));
                x.signs(3);
                int before = x.vows(0);
                found = x.sign(s, 1) == before && before == 64 ? s : -1;
            }
            all.append(found).append(' ');
        }
        return all.toString().trim();
    }

    private static void move() {
        ParrotVow x = new ParrotVow();
        Due.sheet(x, 0, 32, 1, 2, 3, 4, 5);
        Due.sheet(x, 1, 32, 11, 12, 13);
        Due.due("move(0, 1, 1, 0, 2)", x.move(0, 1, 1, 0, 2), 2);
        Due.due("the other", numbers(x, 1, 3), "2 3 13");
        Due.due("the one", numbers(x, 0, 5), "1 2 3 4 5");
        Due.due("move(0, 5, 1, 3, 0)", x.move(0, 5, 1, 3, 0), 0);
        Due.due("move(0, 2, 1, 0, 3)", x.move(0, 2, 1, 0, 3), 3);
        Due.due("the other", numbers(x, 1, 3), "3 4 5");
        Due.due("move(0, 6, 1, 0, 0)", x.move(0, 6, 1, 0, 0), Due.BEYOND);
        Due.due("move(0, 0, 1, 4, 0)", x.move(0, 0, 1, 4, 0), Due.BEYOND);
        Due.refused("move(4, 0, 0, 0, 1)", Due::busy, y -> y.move(4, 0, 0, 0, 1), Due.BEYOND);
        Due.refused("move(0, 0, 4, 0, 1)", Due::busy, y -> y.move(0, 0, 4, 0, 1), Due.BEYOND);
        Due.refused("move(-1, 0, 3, 0, 1)", Due::busy, y -> y.move(-1, 0, 3, 0, 1), Due.BEYOND);
        Due.refused("move(3, 0, -1, 0, 1)", Due::busy, y -> y.move(3, 0, -1, 0, 1), Due.BEYOND);
        Due.refused("move(3, 0, 0, 0, 1)", Due::busy, y -> y.move(3, 0, 0, 0, 1), Due.NONE);
        Due.refused("move(0, 0, 3, 0, -1)", Due::busy, y -> y.move(0, 0, 3, 0, -1), Due.NONE);
        Due.refused("move(0, 0, 1, 0, 1)", Due::busy, y -> y.move(0, 0, 1, 0, 1), Due.KIND);
        Due.refused("move(0, 0, 1, 0, -1)", Due::busy, y -> y.move(0, 0, 1, 0, -1), Due.KIND);
        Due.refused("move(0, 0, 2, 0, -1)", Due::busy, y -> y.move(0, 0, 2, 0, -1), Due.BEYOND);
        Due.refused("move(0, -1, 2, 0, 1)", Due::busy, y -> y.move(0, -1, 2, 0, 1), Due.BEYOND);
        Due.refused("move(0, 0, 2, -1, 1)", Due::busy, y -> y.move(0, 0, 2, -1, 1), Due.BEYOND);
        Due.refused("move(0, 0, 2, 0, 4)", Due::busy, y -> y.move(0, 0, 2, 0, 4), Due.BEYOND);
        Due.refused("move(0, 2, 2, 0, 3)", Due::busy, y -> y.move(0, 2, 2, 0, 3), Due.BEYOND);
        Due.refused("move(0, 0, 2, 2, 2)", Due::busy, y -> y.move(0, 0, 2, 2, 2), Due.BEYOND);
        int most = Integer.MAX_VALUE;
        Due.refused("move(0, most, 2, 0, most)", Due::busy, y -> y.move(0, most, 2, 0, most), Due.BEYOND);
        Due.refused("move(0, 1, 2, 1, most)", Due::busy, y -> y.move(0, 1, 2, 1, most), Due.BEYOND);
    }

    private static void moveOverItself() {
        ParrotVow x = new ParrotVow();
        Due.sheet(x, 0, 32, 1, 2, 3, 4, 5);
        Due.due("move(0, 0, 0, 1, 4)", x.move(0, 0, 0, 1, 4), 4);
        Due.due("up", numbers(x, 0, 5), "1 1 2 3 4");
        Due.due("move(0, 2, 0, 0, 3)", x.move(0, 2, 0, 0, 3), 3);
        Due.due("down", numbers(x, 0, 5), "2 3 4 3 4");
        Due.due("move(0, 0, 0, 0, 5)", x.move(0, 0, 0, 0, 5), 5);
        Due.due("upon itself", numbers(x, 0, 5), "2 3 4 3 4");
    }

    /** SHEETS of 24 numbers, 40 up to 63 in the one and 39 down to 16 in the other; the same or another. */
    private static void moveOfAll() {
        int[][] all = {{0, 0, 24}, {0, 1, 23}, {1, 0, 23}, {0, 12, 12}, {12, 0, 12}, {3, 5, 10}, {5, 3, 10}, {23, 0, 1},
            {0, 23, 1}, {24, 24, 0}, {24, 0, 0}, {0, 24, 0}, {7, 7, 9}};
        for (int bits = 8; bits <= 32; bits *= 2) {
            for (int[] one : all) {
                for (int other = 1; other <= 2; other++) {
                    moved(bits, one[0], other, one[1], one[2]);
                }
            }
        }
    }

    private static void moved(int bits, int i, int other, int j, int n) {
        int[][] were = {new int[24], new int[24]};
        for (int at = 0; at < 24; at++) {
            were[0][at] = 40 + at;
            were[1][at] = 39 - at;
        }
        int[] to = were[other - 1].clone();
        System.arraycopy(were[0], i, to, j, n);
        String call = "move(1, " + i + ", " + other + ", " + j + ", " + n + ") of " + bits + " bits";
        for (int sheet = 1; sheet <= 2; sheet++) {
            ParrotVow x = new ParrotVow();
            Due.sheet(x, 1, bits, were[0]);
            Due.sheet(x, 2, bits, were[1]);
            Due.due(call, x.move(1, i, other, j, n), n);
            int[] want = sheet == other ? to : were[sheet - 1];
            for (int at = 0; at < 24; at++) {
                x.sheet(3, bits, 1);
                x.move(sheet, at, 3, 0, 1);
                x.signs(3);
                Due.due(call + ": number " + at + " of SHEET " + sheet, x.vows(1), leastBroken(want[at]));
                x.forget(1);
            }
        }
    }

    /** The least VOW that a SAYING BREAKS: its figures are its marks. */
    private static int leastBroken(int s) {
        int vow = 0;
        for (int k = 5; k >= 0; k--) {
            vow = 3 * vow + (s >> k) % 2;
        }
        return vow;
    }

    private static void signs() {
        ParrotVow x = new ParrotVow();
        x.vow(485);
        Due.sheet(x, 0, 16, 32, 33, 1, 64, 2);
        Due.due("signs(0) up to 64", x.signs(0), 3);
        Due.due("count(1)", x.count(1), 3);
        ParrotVow y = new ParrotVow();
        y.sign(32, 1);
        y.sign(33, 1);
        y.sign(1, 0);
        Due.due("F", x.vows(0), y.vows(0));
        Due.due("the least", x.vows(1), y.vows(1));
        Due.due("told(1)", x.told(1), 0);
        Due.sheet(x, 1, 32, -1, 2);
        Due.due("signs(1) at -1", x.signs(1), 0);
        x.sheet(2, 8, 0);
        Due.due("signs(2) of no numbers", x.signs(2), 0);
        x.sheet(2, 8, 24);
        Due.due("signs(2) while there is room", x.signs(2), 21);
        Due.due("count(1)", x.count(1), 24);
        Due.due("signs(2) without room", x.signs(2), 0);
        Due.due("told(4)", x.told(4), 0);
        Due.refused("signs(3)", Due::busy, z -> z.signs(3), Due.NONE);
        Due.refused("signs(4)", Due::busy, z -> z.signs(4), Due.BEYOND);
        Due.refused("signs(-1)", Due::busy, z -> z.signs(-1), Due.BEYOND);
    }

    private static void judge() {
        ParrotVow x = new ParrotVow();
        x.sign(5, 1);
        Due.sheet(x, 0, 8, 16, 32, 8, 16, 32, 64, 16, 32, 8);
        Due.due("judge(0), all right", x.judge(0), 9);
        x.put(0, 8, 4);
        Due.due("judge(0), the last wrong", x.judge(0), 8);
        x.put(0, 0, 17);
        Due.due("judge(0), the first wrong", x.judge(0), 0);
        x.put(0, 0, 16);
        x.put(0, 5, 63);
        Due.due("judge(0), the sixth wrong", x.judge(0), 5);
        x.sign(58, 0);
        Due.due("judge(0) after one more SIGN", x.judge(0), 0);
        x.sheet(1, 32, 0);
        Due.due("judge(1) of no numbers", x.judge(1), 0);
        x.sign(5, 0);
        x.sheet(1, 16, 24);
        Due.due("judge(1), none FITS", x.judge(1), 24);
        Due.refused("judge(3)", Due::busy, y -> y.judge(3), Due.NONE);
        Due.refused("judge(4)", Due::busy, y -> y.judge(4), Due.BEYOND);
        Due.refused("judge(-1)", Due::busy, y -> y.judge(-1), Due.BEYOND);
        Due.idle("judge(0)", Due::busy, y -> y.judge(0), Due.busy().judge(0));
    }
}
