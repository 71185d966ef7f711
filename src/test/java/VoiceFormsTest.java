/** Section 4: each VOICE of each KIND as one formula, for every k and m, and x up to where ints wrap. */
final class VoiceFormsTest {
    private static final int MOST = Integer.MAX_VALUE;
    private static final int LEAST = Integer.MIN_VALUE;
    private static final int[] XS = {0, 1, -1, 2, -2, 3, -3, 9, -9, 100, -100, 1 << 30, -(1 << 30), (1 << 30) - 5,
        715827882, 715827883, MOST, MOST - 1, MOST - 4, MOST - 5, LEAST, LEAST + 1, LEAST + 4, LEAST + 9};
    private static final int[][] TRACES = {
        {10}, {11, 10}, {12, 11, 10}, {13},
        {20, 10}, {11, 20, 10}, {12, 11, 20, 10}, {21, 13, 11, 20, 10},
        {10}, {30, 11, 10}, {12, 30, 11, 10}, {13},
        {10}, {11, 10}, {40, 12, 11, 10}, {13},
        {50, 20, 10}, {11, 50, 20, 10}, {51, 12, 11, 50, 20, 10}, {21, 13, 11, 50, 20, 10},
        {10}, {60, 30, 11, 10}, {12, 60, 30, 11, 10}, {13},
        {70}, {71, 11, 70}, {12, 71, 11, 70}, {13}
    };

    public static void main(String[] args) {
        forms();
        traces();
        partedOnlyByDivisor();
        partedIsAll();
        traceOfTheLatest();
        answersLikeErrors();
        Due.end();
    }

    private static int coughs(int kind, int k, int x) {
        int[] all = {x + k, x + k - 4, x + k, x + k, 3 * (x + k - 4), x + k, 9};
        return all[kind];
    }

    private static int talks(int kind, int k, int m, int x) {
        switch (kind) {
            case 2:
                return -2 * (x + k);
            case 5:
                return -2 * (x + 1 + k);
            case 6:
                return 18 + m;
            default:
                return 2 * coughs(kind, k, x);
        }
    }

    private static int hushes(int kind, int k, int m, int x) {
        int asked = kind == 3 ? x / 2 : x;
        int plain = talks(kind, k, m, asked) - m;
        return kind == 4 ? plain ^ k : plain;
    }

    private static int parts(int kind, int k, int m, int x) {
        if (m == k) {
            return Due.PARTED;
        }
        int plain = x / (m - k);
        return kind == 1 || kind == 4 ? plain + talks(kind, k, m, 1) : plain;
    }

    private static int form(int kind, int k, int m, int voice, int x) {
        switch (voice) {
            case 0:
                return coughs(kind, k, x);
            case 1:
                return talks(kind, k, m, x);
            case 2:
                return hushes(kind, k, m, x);
            default:
                return parts(kind, k, m, x);
        }
    }

    /** One of six BROTHERS, the others being of other KINDS. */
    private static ParrotVow six(int kind, int k, int m) {
        ParrotVow x = new ParrotVow();
        for (int i = 0; i < 6; i++) {
            x.brother(i == k ? 10 * kind + m : 60 - 10 * i + 7);
        }
        return x;
    }

    private static void forms() {
        for (int kind = 0; kind <= 6; kind++) {
            for (int k = 0; k <= 5; k++) {
                for (int m = 0; m <= 9; m++) {
                    ParrotVow x = six(kind, k, m);
                    for (int voice = 0; voice <= 3; voice++) {
                        for (int v : XS) {
                            Due.due("km " + kind + m + " voice(" + k + ", " + voice + ", " + v + ")",
                                x.voice(k, voice, v), form(kind, k, m, voice, v));
                        }
                    }
                    Due.due("km " + kind + m + ", number " + k + ": told(6)", x.told(6), m == k ? XS.length : 0);
                }
            }
        }
    }

    private static void traces() {
        for (int kind = 0; kind <= 6; kind++) {
            for (int voice = 0; voice <= 3; voice++) {
                ParrotVow x = six(kind, 3, 5);
                for (int v : new int[] {0, LEAST, MOST}) {
                    x.voice(3, voice, v);
                    trace(x, "kind " + kind + " voice " + voice, TRACES[4 * kind + voice]);
                }
            }
        }
    }

    private static void trace(ParrotVow x, String call, int... bodies) {
        Due.due(call + ": count(7)", x.count(7), bodies.length);
        for (int i = 0; i < bodies.length; i++) {
            Due.due(call + ": body(" + i + ")", x.body(i), bodies[i]);
        }
        Due.due(call + ": body(" + bodies.length + ")", x.body(bodies.length), Due.NONE);
        Due.due(call + ": body(29)", x.body(29), Due.NONE);
        Due.due(call + ": body(30)", x.body(30), Due.NONE);
    }

    /** A quotient of 0 is one; m less k of 0 is PARTED, even for x 0. */
    private static void partedOnlyByDivisor() {
        ParrotVow x = six(0, 2, 5);
        Due.due("0 by 3", x.voice(2, 3, 0), 0);
        Due.due("2 by 3", x.voice(2, 3, 2), 0);
        Due.due("-2 by 3", x.voice(2, 3, -2), 0);
        Due.due("3 by 3", x.voice(2, 3, 3), 1);
        Due.due("-3 by 3", x.voice(2, 3, -3), -1);
        Due.due("told(6)", x.told(6), 0);
        x.become(2, 1);
        Due.due("7 by -1", x.voice(2, 3, 7), -7);
        Due.due("the least int by -1", x.voice(2, 3, LEAST), LEAST);
        x.become(2, 2);
        Due.due("0 by 0", x.voice(2, 3, 0), Due.PARTED);
        Due.due("7 by 0", x.voice(2, 3, 7), Due.PARTED);
        x.become(2, 3);
        Due.due("7 by 1", x.voice(2, 3, 7), 7);
        Due.due("told(6)", x.told(6), 2);
    }

    /** Of CAREFUL and MUTE, too, who would talk yet: nothing begins any more, and THE TRACE has what began. */
    private static void partedIsAll() {
        for (int kind = 0; kind <= 6; kind++) {
            ParrotVow x = six(kind, 4, 4);
            Due.due("kind " + kind + " parts", x.voice(4, 3, 8), Due.PARTED);
            if (kind == 1 || kind == 4) {
                trace(x, "kind " + kind + " PARTED", 21, 13);
            } else {
                trace(x, "kind " + kind + " PARTED", 13);
            }
        }
        ParrotVow untouched = parted(0);
        ParrotVow touched = parted(5);
        Due.due("5 more PARTED: told(6)", touched.told(6), untouched.told(6) + 5);
        Due.due("5 more PARTED: all else", Due.seen(touched), Due.seen(untouched));
    }

    private static ParrotVow parted(int more) {
        ParrotVow x = Due.busy();
        x.become(1, 11);
        for (int i = 0; i <= more; i++) {
            x.voice(1, 3, i);
        }
        return x;
    }

    private static void traceOfTheLatest() {
        ParrotVow x = six(4, 3, 5);
        x.voice(3, 2, 7);
        Due.due("count(7)", x.count(7), 6);
        x.voice(6, 0, 7);
        x.voice(-1, 0, 7);
        x.voice(3, 4, 7);
        x.voice(3, -1, 7);
        trace(x, "behind four that are BEYOND", 51, 12, 11, 50, 20, 10);
        x.voice(0, 0, 7);
        trace(x, "a shorter one", 70);
        x.become(3, 43);
        x.voice(3, 3, 7);
        trace(x, "one PARTED", 21, 13);
        x.voice(3, 0, 7);
        trace(x, "one behind that", 50, 20, 10);
    }

    /** "any number": an answer that looks like an ERROR is none, and is not counted. */
    private static void answersLikeErrors() {
        ParrotVow x = six(0, 0, 9);
        for (int k = 1; k <= 6; k++) {
            Due.due("coughs", x.voice(0, 0, -1000000000 - k), -1000000000 - k);
            Due.due("talks", x.voice(0, 1, -500000000), -1000000000);
            Due.due("hushes", x.voice(0, 2, -500000000), -1000000009);
        }
        for (int k = 1; k <= 6; k++) {
            Due.due("told(" + k + ")", x.told(k), 0);
        }
    }
}
