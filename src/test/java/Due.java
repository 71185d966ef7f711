import java.util.ArrayList;
import java.util.List;

/** What the tests have in common: counting wrong answers, and the wrong calls that must change nothing. */
final class Due {
    static final int BEYOND = -1000000001;
    static final int NONE = -1000000002;
    static final int STATE = -1000000003;
    static final int FULL = -1000000004;
    static final int KIND = -1000000005;
    static final int PARTED = -1000000006;

    interface Maker {
        ParrotVow make();
    }

    interface Act {
        long on(ParrotVow x);
    }

    interface ActWith {
        long on(ParrotVow x, int v);
    }

    private static int right = 0;
    private static int wrong = 0;

    private Due() {
    }

    static void due(String call, long got, long want) {
        if (got == want) {
            right++;
        } else {
            wrong++;
            System.out.println(call + " answered " + got + ", due is " + want);
        }
    }

    static void due(String call, String got, String want) {
        if (got.equals(want)) {
            right++;
        } else {
            wrong++;
            System.out.println(call + " shows\n  " + got + "\ndue is\n  " + want);
        }
    }

    /** The act answers the ERROR, which told() counts once, and changes nothing else. */
    static void refused(String call, Maker maker, Act act, long error) {
        unchanged(call, maker, act, error, (int) (-1000000000L - error));
    }

    /** As refused, of an act that answers no ERROR and changes nothing at all. */
    static void idle(String call, Maker maker, Act act, long answer) {
        unchanged(call, maker, act, answer, 0);
    }

    /** Of two like objects one is acted on; SHEETS are read number by number from two more. */
    private static void unchanged(String call, Maker maker, Act act, long answer, int counted) {
        ParrotVow untouched = maker.make();
        ParrotVow touched = maker.make();
        due(call, act.on(touched), answer);
        for (int k = 1; k <= 6; k++) {
            int more = k == counted ? 1 : 0;
            due(call + ", then told(" + k + ")", touched.told(k), untouched.told(k) + more);
        }
        due(call + ", then all else", seen(touched), seen(untouched));
        for (int sheet = 0; sheet < 4; sheet++) {
            ParrotVow before = maker.make();
            ParrotVow after = maker.make();
            act.on(after);
            due(call + ", then SHEET " + sheet, numbers(after, sheet), numbers(before, sheet));
        }
    }

    /** A SHEET number by number: each as the only SIGN, by the least VOW that it BREAKS; the object is used up by that. */
    private static String numbers(ParrotVow x, int sheet) {
        List<Long> all = new ArrayList<>();
        all.add((long) x.judge(sheet));
        x.vow(728);
        x.forget(x.count(1));
        long moved = x.move(sheet, 0, sheet, 0, 1);
        for (int i = 1; i <= 24 && moved == 1; i++) {
            int signs = x.signs(sheet);
            all.add((long) x.forget(Math.max(0, signs - 1)));
            all.add((long) x.vows(1));
            all.add((long) x.forget(Math.min(1, signs)));
            all.add((long) x.judge(sheet));
            moved = x.move(sheet, i, sheet, 0, 1);
        }
        all.add(moved);
        return all.toString();
    }

    /** low and high don't answer the ERROR; what lies below and above is refused. */
    static void ends(String call, Maker maker, int low, int high, long error, ActWith act) {
        ends(call, maker, low, high, error, error, act);
    }

    /** As ends, where what lies below is another ERROR than what lies above. */
    static void ends(String call, Maker maker, int low, int high, long errorBelow, long errorAbove, ActWith act) {
        taken(call, maker, low, errorBelow, act);
        taken(call, maker, high, errorAbove, act);
        below(call, maker, low, errorBelow, act);
        above(call, maker, high, errorAbove, act);
    }

    private static void taken(String call, Maker maker, int v, long error, ActWith act) {
        ParrotVow x = maker.make();
        int k = (int) (-1000000000L - error);
        int before = x.told(k);
        due(call + " with " + v + " is the ERROR", act.on(x, v) == error ? 1 : 0, 0);
        due(call + " with " + v + ", then more of told(" + k + ")", x.told(k) - before, 0);
    }

    /** Also what would lie within, if only some lowest bits of it were looked at. */
    static void below(String call, Maker maker, int low, long error, ActWith act) {
        for (int v : new int[] {low - 1, low - 256, low - 65536, Integer.MIN_VALUE + low, Integer.MIN_VALUE}) {
            refused(call + " with " + v, maker, x -> act.on(x, v), error);
        }
    }

    static void above(String call, Maker maker, int high, long error, ActWith act) {
        for (int v : new int[] {high + 1, high + 256, high + 65536, Integer.MAX_VALUE}) {
            refused(call + " with " + v, maker, x -> act.on(x, v), error);
        }
    }

    /** All that can be seen of an object, but for the single numbers of its SHEETS; it is used up by that. */
    static String seen(ParrotVow x) {
        List<Long> all = new ArrayList<>();
        look(x, all);
        for (int i = 0; i < 7; i++) {
            all.add((long) x.body(i));
        }
        for (int sheet = 0; sheet < 4; sheet++) {
            all.add((long) x.fits(sheet, 0));
            all.add((long) x.judge(sheet));
        }
        all.add((long) x.check());
        all.add((long) x.text(0));
        all.add((long) x.law(0, 0, 1, 2));
        for (int sheet = 0; sheet < 4; sheet++) {
            all.add((long) x.signs(sheet));
            all.add((long) x.vows(0));
        }
        all.add((long) x.restore());
        look(x, all);
        all.add((long) x.image());
        return all.toString();
    }

    private static void look(ParrotVow x, List<Long> all) {
        for (int what = 0; what <= 8; what++) {
            all.add((long) x.count(what));
        }
        for (int brother = 0; brother < x.count(0); brother++) {
            for (int what = 0; what <= 3; what++) {
                all.add((long) x.brotherIs(brother, what));
            }
            all.add((long) x.talk(brother, 21));
        }
        for (int what = 0; what <= 3; what++) {
            all.add((long) x.vows(what));
        }
        all.add((long) x.parts(0));
        all.add(x.unsaid(0));
        all.add((long) x.freest(1));
        for (int a = 0; a <= 1; a++) {
            all.add((long) x.law(0, a, 30, 60));
            all.add((long) x.law(1, 10 * a, 33, 5));
        }
    }

    /** A TEXT's bytes come to THE TAPE. */
    static void feed(ParrotVow x, String text) {
        for (int i = 0; i < text.length(); i++) {
            x.feed(text.charAt(i), 1);
        }
    }

    static int text(ParrotVow x, int use, String text) {
        feed(x, text);
        return x.text(use);
    }

    static void sheet(ParrotVow x, int sheet, int bits, int... numbers) {
        x.sheet(sheet, bits, numbers.length);
        for (int i = 0; i < numbers.length; i++) {
            x.put(sheet, i, numbers[i]);
        }
    }

    /** One object with something of everything: what a wrong call might spoil. */
    static ParrotVow busy() {
        ParrotVow x = new ParrotVow();
        x.brother(5);
        x.brother(13);
        x.brother(24);
        x.vow(485);
        x.day(3);
        text(x, 1, "t+d");
        x.sign(63, 1);
        x.sign(1, 0);
        x.image();
        text(x, 0, "a|b>f/2");
        x.say(0, 9);
        x.seed(77);
        x.loose(5);
        x.tell(1);
        x.tell(2);
        feed(x, "a+1");
        sheet(x, 0, 8, 0, 1, 0, 1);
        sheet(x, 1, 16, 5, 9, 64);
        sheet(x, 2, 8, 3, 2, 1);
        x.voice(1, 2, 7);
        return x;
    }

    /** One object with as much of everything as there is room for; no VOW FITS. */
    static ParrotVow full() {
        ParrotVow x = new ParrotVow();
        for (int kind = 1; kind <= 6; kind++) {
            x.brother(10 * kind + 9 - kind);
        }
        x.vow(0);
        for (int s = 0; s < 23; s++) {
            x.sign(s, s % 2);
        }
        x.sign(1, 0);
        x.day(9999);
        text(x, 0, "a+b");
        text(x, 1, "t*2");
        x.image();
        feed(x, "1+1+1+1+1+1+1+1+1+1+1+1+1+1+1+1+1+1+1+1+1+1+1+1+1+1+1+1+1+22");
        for (int i = 0; i < 24; i++) {
            x.tell(i);
        }
        for (int sheet = 0; sheet < 4; sheet++) {
            sheet(x, sheet, sheet < 2 ? 8 : 32, new int[24]);
            x.put(sheet, 0, 1);
        }
        x.voice(3, 3, 1);
        return x;
    }

    static void end() {
        System.out.println(right + " answers are as due, " + wrong + " are not");
        if (wrong != 0) {
            System.exit(1);
        }
    }
}
