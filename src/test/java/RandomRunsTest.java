import java.util.Random;

/** Promises 1 to 38 together: drawn runs of calls, answered by the program and by the Model. */
final class RandomRunsTest {
    private static final int RUNS = 120;
    private static final int CALLS = 512;
    private static final String[] NAMES = {"brother", "brotherIs", "become", "as", "avoids", "talk", "vow",
        "sign", "forget", "say", "feed", "text", "untell", "law", "loose", "day", "seed", "vows", "parts",
        "sure", "unsaid", "freest", "odds", "fits", "voice", "body", "sheet", "put", "move", "signs",
        "judge", "image", "restore", "tell", "check", "count", "told"};
    private static final int[] EDGES = {Integer.MIN_VALUE, Integer.MIN_VALUE + 1, -2, -1, 64, 255, 256, 728,
        729, 65536, 9999, 10000, Integer.MAX_VALUE - 1, Integer.MAX_VALUE};
    private static final String BYTES = "abftsd0123456789!()+-*/%<=>|&";

    private final Random random;
    private final ParrotVow x = new ParrotVow();
    private final Model model = new Model();
    private boolean agree = true;

    private RandomRunsTest(long seed) {
        random = new Random(seed);
    }

    public static void main(String[] args) {
        for (int run = 0; run < RUNS; run++) {
            new RandomRunsTest(run).run(run);
        }
        texts();
        Due.end();
    }

    private void run(int run) {
        int wild = run % 4 == 0 ? 3 : 40;
        for (int i = 0; i < CALLS && agree; i++) {
            int which = which(run);
            if (which == 10) {
                feed(run, i);
            } else {
                int[] v = new int[5];
                for (int j = 0; j < 5; j++) {
                    v[j] = argument(which, j, wild);
                }
                both(run, i, which, 0L, v);
            }
        }
    }

    private int which(int run) {
        int which = random.nextInt(NAMES.length);
        boolean rare = which == 31 || which == 32 || which == 8 || which == 2 || which == 29;
        if (rare && random.nextInt(3) != 0) {
            which = random.nextInt(NAMES.length);
        }
        if (run % 3 == 0 && (which == 7 || which == 14) && random.nextInt(4) != 0) {
            which = 4;
        }
        return which;
    }

    private void feed(int run, int i) {
        String text = random.nextInt(3) == 0 ? noise() : sentence(0, random.nextInt(2) == 0 ? "abf" : "tsd");
        for (int from = 0; from < text.length() && agree; from += 8) {
            long word = 0;
            int n = Math.min(8, text.length() - from);
            for (int j = 0; j < n; j++) {
                word |= (long) text.charAt(from + j) << (8 * j);
            }
            word |= n < 8 ? random.nextLong() << (8 * n) : 0;
            both(run, i, 10, word, new int[] {random.nextInt(30) == 0 ? 9 : n, 0, 0, 0, 0});
        }
        both(run, i, 11, 0L, new int[] {random.nextInt(10) == 0 ? 2 : random.nextInt(2), 0, 0, 0, 0});
    }

    private String noise() {
        StringBuilder all = new StringBuilder();
        int n = random.nextInt(12);
        for (int i = 0; i < n; i++) {
            all.append(random.nextInt(30) == 0 ? (char) random.nextInt(256) : BYTES.charAt(random.nextInt(BYTES.length())));
        }
        return all.toString();
    }

    private String sentence(int depth, String names) {
        int form = random.nextInt(depth > 4 ? 2 : 8);
        if (form == 0) {
            return Integer.toString(random.nextInt(random.nextInt(4) == 0 ? 10000 : 70));
        }
        if (form == 1) {
            return names.substring(random.nextInt(3)).substring(0, 1);
        }
        if (form == 2) {
            return "!" + sentence(depth + 1, names);
        }
        if (form == 3) {
            return "(" + sentence(depth + 1, names) + ")";
        }
        return sentence(depth + 1, names) + "+-*/%<=>|&".charAt(random.nextInt(10)) + sentence(depth + 1, names);
    }

    /** Mostly a number that the call can use, now and then one at or beyond an edge. */
    private int argument(int which, int j, int wild) {
        if (random.nextInt(wild) == 0) {
            return random.nextInt(4) == 0 ? random.nextInt() : EDGES[random.nextInt(EDGES.length)];
        }
        int small = random.nextInt(5) - (random.nextInt(20) == 0 ? 1 : 0);
        switch (which) {
            case 0:
                return random.nextInt(70);
            case 2:
                return j == 0 ? small : random.nextInt(70);
            case 4:
            case 5:
            case 9:
                return j == 0 ? small : random.nextInt(64);
            case 6:
                return random.nextInt(3) == 0 ? random.nextInt(729) : 728 - 2 * (int) Math.pow(3, random.nextInt(6));
            case 7:
                return j == 0 ? random.nextInt(64) : random.nextInt(2);
            case 13:
                return j == 0 ? random.nextInt(2) : random.nextInt(200) - 100;
            case 15:
                return random.nextInt(50);
            case 16:
                return random.nextInt();
            case 19:
                return random.nextInt(64);
            case 22:
                return j == 0 ? random.nextInt(64) : random.nextInt(2);
            case 24:
                return j == 2 ? random.nextInt(60) - 30 : small;
            case 26:
                return j == 1 ? 8 * new int[] {0, 1, 1, 1, 2, 4}[random.nextInt(6)] : j == 2 ? random.nextInt(12) : small;
            case 27:
                return j == 2 ? put() : j == 1 ? random.nextInt(10) : small;
            case 35:
                return random.nextInt(9);
            case 36:
                return random.nextInt(7);
            default:
                return small;
        }
    }

    private int put() {
        switch (random.nextInt(4)) {
            case 0:
                return random.nextInt(2);
            case 1:
                return random.nextInt(64);
            case 2:
                return 1 << random.nextInt(7);
            default:
                return random.nextInt();
        }
    }

    private void both(int run, int i, int which, long w, int[] v) {
        long got = call(which, w, v[0], v[1], v[2], v[3], v[4]);
        long want = model.call(which, w, v[0], v[1], v[2], v[3], v[4]);
        agree = got == want;
        Due.due("run " + run + ", call " + i + ", " + NAMES[which] + "(" + w + ": " + v[0] + ", " + v[1] + ", "
            + v[2] + ", " + v[3] + ", " + v[4] + ")", got, want);
    }

    private long call(int which, long w, int a, int b, int c, int d, int e) {
        switch (which) {
            case 0: return x.brother(a);
            case 1: return x.brotherIs(a, b);
            case 2: return x.become(a, b);
            case 3: return x.as(a, b);
            case 4: return x.avoids(a, b);
            case 5: return x.talk(a, b);
            case 6: return x.vow(a);
            case 7: return x.sign(a, b);
            case 8: return x.forget(a);
            case 9: return x.say(a, b);
            case 10: return x.feed(w, a);
            case 11: return x.text(a);
            case 12: return x.untell(a);
            case 13: return x.law(a, b, c, d);
            case 14: return x.loose(a);
            case 15: return x.day(a);
            case 16: return x.seed(a);
            case 17: return x.vows(a);
            case 18: return x.parts(a);
            case 19: return x.sure(a);
            case 20: return x.unsaid(a);
            case 21: return x.freest(a);
            case 22: return x.odds(a, b);
            case 23: return x.fits(a, b);
            case 24: return x.voice(a, b, c);
            case 25: return x.body(a);
            case 26: return x.sheet(a, b, c);
            case 27: return x.put(a, b, c);
            case 28: return x.move(a, b, c, d, e);
            case 29: return x.signs(a);
            case 30: return x.judge(a);
            case 31: return x.image();
            case 32: return x.restore();
            case 33: return x.tell(a);
            case 34: return x.check();
            case 35: return x.count(a);
            default: return x.told(a);
        }
    }

    /** TEXTS alone, many of them: their FAULTS and what they give. */
    private static void texts() {
        RandomRunsTest drawn = new RandomRunsTest(-1L);
        for (int i = 0; i < 20000; i++) {
            ParrotVow y = new ParrotVow();
            int use = drawn.random.nextInt(2);
            String names = use == 0 ? "abf" : "tsd";
            String text = drawn.random.nextInt(4) == 0 ? drawn.noise() : drawn.sentence(0, names);
            text = text.substring(0, Math.min(60, text.length()));
            int fault = Model.fault(text, names);
            Due.due("text(" + use + ") of " + text, Due.text(y, use, text), fault < 0 ? 1 : -10 - fault);
            if (fault < 0) {
                int a = drawn.random.nextInt(20) - 10;
                int b = drawn.random.nextInt();
                int c = drawn.random.nextInt(100) - 50;
                int most = use == 0 ? 1 : 99;
                int free = Model.value(text, names, new int[] {a, b, c});
                Due.due(text + " with " + a + ", " + b + ", " + c, y.law(use, a, b, c), Math.max(0, Math.min(most, free)));
            }
        }
    }
}
