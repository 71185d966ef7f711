import java.util.ArrayList;
import java.util.Arrays;
import java.util.List;

/**
 * The document once more, as plainly as the Java library allows and without regard to cost:
 * figures instead of masks, TEXTS worked out from their characters, errors by exception.
 */
final class Model {
    private static final class Wrong extends RuntimeException {
        private static final long serialVersionUID = 1L;
        final int k;

        Wrong(int k) {
            super(null, null, false, false);
            this.k = k;
        }
    }

    private static final class Brother {
        int kind;
        int m;
        int said;
    }

    private static final class Kept {
        List<Brother> brothers = new ArrayList<>();
        List<int[]> signs = new ArrayList<>();
        String[] texts = new String[2];
        String tape = "";
        List<Integer> waiting = new ArrayList<>();
        int vow = 728;
        int day = 0;
        int worth = 0;
        int z = 1;

        Kept copy() {
            Kept c = new Kept();
            for (Brother b : brothers) {
                Brother d = new Brother();
                d.kind = b.kind;
                d.m = b.m;
                d.said = b.said;
                c.brothers.add(d);
            }
            c.signs.addAll(signs);
            c.texts = texts.clone();
            c.tape = tape;
            c.waiting.addAll(waiting);
            c.vow = vow;
            c.day = day;
            c.worth = worth;
            c.z = z;
            return c;
        }
    }

    private static final String[] ABOVE = {"", "0", "0", "0", "10", "20", "0"};

    private Kept now = new Kept();
    private Kept image = null;
    private int images = 0;
    private final int[] told = new int[7];
    private final long[][] sheets = new long[4][];
    private final int[] widths = new int[4];
    private List<Integer> trace = new ArrayList<>();

    /** The call by its place in the document's face (0 brother .. 36 told). */
    long call(int which, long w, int a, int b, int c, int d, int e) {
        try {
            return which < 17 ? early(which, w, a, b, c, d) : late(which, a, b, c, d, e);
        } catch (Wrong error) {
            told[error.k]++;
            return -1000000000L - error.k;
        }
    }

    private long early(int which, long w, int a, int b, int c, int d) {
        switch (which) {
            case 0: return brother(a);
            case 1: return brotherIs(a, b);
            case 2: return become(a, b);
            case 3: return as(a, b);
            case 4: who(a); in(b, 63); return avoids(a, b) ? 1 : 0;
            case 5: who(a); in(b, 63); return talk(a, b);
            case 6: { in(a, 728); int was = now.vow; now.vow = a; return was; }
            case 7: in(a, 63); in(b, 1); room(now.signs.size() < 24); now.signs.add(new int[] {a, b}); return fit().size();
            case 8: in(a, now.signs.size()); now.signs.subList(now.signs.size() - a, now.signs.size()).clear(); return fit().size();
            case 9: who(a); in(b, 63); ask(!avoids(a, b), 3); return says(a, b, false);
            case 10: return feed(w, a);
            case 11: return text(a);
            case 12: { in(a, 1); int was = now.texts[a] == null ? 0 : 1; now.texts[a] = null; return was; }
            case 13: in(a, 1); return law(a, b, c, d);
            case 14: return loose(a);
            case 15: { in(a, 9999); int was = now.day; now.day = a; return was; }
            default: { int was = now.z; now.z = a; return was; }
        }
    }

    private long late(int which, int a, int b, int c, int d, int e) {
        switch (which) {
            case 17: return vows(a);
            case 18: return parts(a);
            case 19: in(a, 63); for (int s = 0; s < 64; s++) { if ((s | a) == s && broken(s) == 0) { return s; } } throw new Wrong(2);
            case 20: return unsaid(a);
            case 21: return freest(a);
            case 22: return odds(a, b);
            case 23: return fits(a, b);
            case 24: return voice(a, b, c);
            case 25: ask(a >= 0 && a < trace.size(), 2); return trace.get(a);
            case 26: return sheet(a, b, c);
            case 27: return put(a, b, c);
            case 28: return move(a, b, c, d, e);
            case 29: return signs(a);
            case 30: return judge(a);
            case 31: image = now.copy(); return ++images;
            case 32: ask(image != null, 2); now = image.copy(); return now.day;
            case 33: room(now.waiting.size() < 24); now.waiting.add(a); return now.waiting.size();
            case 34: return check();
            case 35: return count(a);
            default: ask(a >= 1 && a <= 6, 1); return told[a];
        }
    }

    private static void ask(boolean holds, int k) {
        if (!holds) {
            throw new Wrong(k);
        }
    }

    private static void in(int v, int most) {
        ask(v >= 0 && v <= most, 1);
    }

    private static void room(boolean there) {
        ask(there, 4);
    }

    private void who(int i) {
        in(i, now.brothers.size() - 1);
    }

    private int brother(int km) {
        in(km, 69);
        room(now.brothers.size() < 6);
        Brother b = new Brother();
        b.kind = km / 10;
        b.m = km % 10;
        now.brothers.add(b);
        return now.brothers.size() - 1;
    }

    private int brotherIs(int i, int what) {
        who(i);
        in(what, 3);
        Brother b = now.brothers.get(i);
        int many = 0;
        for (int s = 0; s < 64; s++) {
            many += avoids(i, s) ? 1 : 0;
        }
        return new int[] {b.kind, b.m, b.said, many}[what];
    }

    private int become(int i, int km) {
        who(i);
        in(km, 69);
        Brother b = now.brothers.get(i);
        int was = b.kind;
        b.kind = km / 10;
        b.m = km % 10;
        return was;
    }

    private int as(int i, int kind) {
        who(i);
        in(kind, 6);
        Brother b = now.brothers.get(i);
        ask(b.kind == kind || ABOVE[b.kind].indexOf('0' + kind) >= 0, 5);
        return b.m;
    }

    // ---- vows

    private static final boolean[][] BREAKS = new boolean[64][729];

    static {
        for (int s = 0; s < 64; s++) {
            for (int v = 0; v < 729; v++) {
                BREAKS[s][v] = figured(s, v);
            }
        }
    }

    private static boolean breaks(int s, int vow) {
        return BREAKS[s][vow];
    }

    private static boolean figured(int s, int vow) {
        for (int k = 0; k < 6; k++) {
            int figure = vow % 3;
            if (figure != 2 && figure != (s >> k & 1)) {
                return false;
            }
            vow /= 3;
        }
        return true;
    }

    private List<Integer> fit() {
        List<Integer> fit = new ArrayList<>();
        for (int v = 0; v < 729; v++) {
            boolean fits = true;
            for (int[] sign : now.signs) {
                fits &= breaks(sign[0], v) == (sign[1] == 1);
            }
            if (fits) {
                fit.add(v);
            }
        }
        return fit;
    }

    private int broken(int s) {
        int many = 0;
        for (int v : fit()) {
            many += breaks(s, v) ? 1 : 0;
        }
        return many;
    }

    private boolean shuns(int i, int s) {
        Brother x = now.brothers.get(i);
        int b = broken(s);
        int f = fit().size();
        switch (x.kind) {
            case 0: return 10 * b > x.m * f;
            case 1: return b != 0;
            case 2: return b > f - b;
            case 3: return now.day % 7 == 2 && 10 * b > x.m * f;
            case 4: return (s + x.m) % 2 == 0 || b != 0;
            case 5: return b == f && b > f - b;
            default: return s == x.m;
        }
    }

    private boolean avoids(int i, int s) {
        return law(0, shuns(i, s) ? 1 : 0, broken(s), fit().size()) == 1;
    }

    private int talk(int i, int s) {
        Brother x = now.brothers.get(i);
        int plain = x.m;
        for (int k = 0; k < 6; k++) {
            plain += s >> k & 1;
        }
        int[] tells = {plain, plain / 2, plain + s % 5, plain, 0, plain + s % 5 - 1, plain + now.day % 3};
        return law(1, tells[x.kind], s, now.day % 7);
    }

    private int says(int i, int s, boolean slip) {
        int talk = talk(i, s);
        Brother x = now.brothers.get(i);
        x.said = Math.min(99999, x.said + 1);
        now.worth = Math.min(99999, now.worth + talk);
        int felt = breaks(s, now.vow) ? 1 : 0;
        if (slip) {
            felt = 1 - felt;
        }
        if (now.signs.size() < 24) {
            now.signs.add(new int[] {s, felt});
        }
        return felt;
    }

    private int loose(int n) {
        ask(n >= 1 && n <= 20, 1);
        ask(now.day + n <= 9999, 3);
        int felt = 0;
        for (int i = 0; i < n; i++) {
            if (!now.brothers.isEmpty()) {
                int one = draw();
                int two = draw();
                int three = draw();
                int x = one % now.brothers.size();
                if (!avoids(x, two % 64)) {
                    felt += says(x, two % 64, three % 16 == 0);
                }
            }
            now.day++;
        }
        return felt;
    }

    private int draw() {
        now.z = now.z * 1103515245 + 12345;
        return now.z >>> 8;
    }

    private int vows(int what) {
        in(what, 3);
        List<Integer> fit = fit();
        if (what == 0) {
            return fit.size();
        }
        ask(!fit.isEmpty(), 2);
        if (what == 1) {
            return fit.get(0);
        }
        int best = 0;
        int fewest = 7;
        for (int v : fit) {
            int other = 0;
            for (char figure : ("000000" + Integer.toString(v, 3)).substring(Integer.toString(v, 3).length()).toCharArray()) {
                other += figure == '2' ? 0 : 1;
            }
            if (other < fewest) {
                fewest = other;
                best = v;
            }
        }
        return what == 2 ? best : fewest;
    }

    private int parts(int what) {
        in(what, 1);
        int best = 0;
        int most = -1;
        int f = fit().size();
        for (int s = 0; s < 64; s++) {
            int b = broken(s);
            if (Math.min(b, f - b) > most) {
                most = Math.min(b, f - b);
                best = s;
            }
        }
        return what == 0 ? best : most;
    }

    private long unsaid(int what) {
        in(what, 1);
        long set = 0;
        int many = 0;
        for (int s = 0; s < 64; s++) {
            boolean all = !now.brothers.isEmpty();
            for (int i = 0; i < now.brothers.size(); i++) {
                all = all && avoids(i, s);
            }
            if (all) {
                set |= 1L << s;
                many++;
            }
        }
        return what == 0 ? set : many;
    }

    private int freest(int what) {
        in(what, 1);
        ask(!now.brothers.isEmpty(), 3);
        int who = -1;
        int most = -1;
        for (int i = 0; i < now.brothers.size(); i++) {
            int sum = 0;
            for (int s = 0; s < 64; s++) {
                if (broken(s) == 0 && !avoids(i, s)) {
                    sum += talk(i, s);
                }
            }
            if (sum > most) {
                who = i;
                most = sum;
            }
        }
        return what == 0 ? who : most;
    }

    private int odds(int s, int part) {
        in(s, 63);
        in(part, 1);
        int f = fit().size();
        ask(f > 0, 3);
        int b = broken(s);
        int by = 1;
        for (int d = 1; d <= f; d++) {
            if (b % d == 0 && f % d == 0) {
                by = d;
            }
        }
        return (part == 0 ? b : f) / by;
    }

    private int fits(int sheet, int what) {
        in(sheet, 3);
        in(what, 1);
        ask(sheets[sheet] != null, 2);
        int many = 0;
        int least = -1;
        for (int v : fit()) {
            boolean so = true;
            for (int s = 0; s < sheets[sheet].length; s++) {
                so &= sheets[sheet][s] == (breaks(s, v) ? 1 : 0);
            }
            if (so) {
                many++;
                least = least < 0 ? v : least;
            }
        }
        ask(what == 0 || many > 0, 2);
        return what == 0 ? many : least;
    }

    // ---- texts

    private int feed(long w, int n) {
        ask(n >= 1 && n <= 8, 1);
        room(now.tape.length() + n <= 60);
        for (int i = 0; i < n; i++) {
            now.tape += (char) (w & 255);
            w >>= 8;
        }
        return now.tape.length();
    }

    private int text(int use) {
        in(use, 1);
        String tape = now.tape;
        now.tape = "";
        int fault = fault(tape, use == 0 ? "abf" : "tsd");
        if (fault >= 0) {
            return -10 - fault;
        }
        now.texts[use] = tape;
        return 1;
    }

    /** Keeps for each open ( whether something was compared in it, and how many ! wait there. */
    static int fault(String s, String names) {
        List<int[]> frames = new ArrayList<>();
        frames.add(new int[2]);
        boolean operand = true;
        int i = 0;
        while (i < s.length()) {
            char c = s.charAt(i);
            int[] frame = frames.get(frames.size() - 1);
            int open = frames.size() - 1;
            for (int[] f : frames) {
                open += f[1];
            }
            if (operand && (c == '!' || c == '(')) {
                if (open == 5) {
                    return i;
                }
                if (c == '!') {
                    frame[1]++;
                } else {
                    frames.add(new int[2]);
                }
            } else if (operand) {
                int digits = 0;
                while (digits < 4 && i + digits < s.length() && s.charAt(i + digits) >= '0' && s.charAt(i + digits) <= '9') {
                    digits++;
                }
                if (digits == 0 && names.indexOf(c) < 0) {
                    return i;
                }
                i += Math.max(0, digits - 1);
                frame[1] = 0;
                operand = false;
            } else if (c == ')' && frames.size() > 1) {
                frames.remove(frames.size() - 1);
                frames.get(frames.size() - 1)[1] = 0;
            } else if ("<=>".indexOf(c) >= 0 && frame[0] == 0) {
                frame[0] = 1;
                operand = true;
            } else if ("|&".indexOf(c) >= 0) {
                frame[0] = 0;
                operand = true;
            } else if ("+-*/%".indexOf(c) >= 0) {
                operand = true;
            } else {
                return i;
            }
            i++;
        }
        return operand || frames.size() > 1 ? i : -1;
    }

    private int law(int use, int a, int b, int c) {
        int v = a;
        if (now.texts[use] != null) {
            v = value(now.texts[use], use == 0 ? "abf" : "tsd", new int[] {a, b, c});
        }
        return Math.max(0, Math.min(use == 0 ? 1 : 99, v));
    }

    /** Parts a TEXT at its last operator of the lowest rank outside all ( ). */
    static int value(String s, String names, int[] values) {
        String[] ranks = {"|", "&", "<=>", "+-", "*/%"};
        for (String rank : ranks) {
            int depth = 0;
            for (int i = s.length() - 1; i >= 0; i--) {
                char c = s.charAt(i);
                depth += c == ')' ? 1 : c == '(' ? -1 : 0;
                if (depth == 0 && rank.indexOf(c) >= 0) {
                    return join(c, value(s.substring(0, i), names, values), value(s.substring(i + 1), names, values));
                }
            }
        }
        if (s.charAt(0) == '!') {
            return value(s.substring(1), names, values) == 0 ? 1 : 0;
        }
        if (s.charAt(0) == '(') {
            return value(s.substring(1, s.length() - 1), names, values);
        }
        int name = names.indexOf(s.charAt(0));
        return name >= 0 ? values[name] : Integer.parseInt(s);
    }

    private static int join(char c, int l, int r) {
        switch (c) {
            case '|': return (l != 0) | (r != 0) ? 1 : 0;
            case '&': return (l != 0) & (r != 0) ? 1 : 0;
            case '<': return l < r ? 1 : 0;
            case '=': return l == r ? 1 : 0;
            case '>': return l > r ? 1 : 0;
            case '+': return (int) ((long) l + r);
            case '-': return (int) ((long) l - r);
            case '*': return (int) ((long) l * r);
            case '/': return r == 0 ? 0 : (int) ((long) l / r);
            default: return r == 0 ? 0 : (int) ((long) l % r);
        }
    }

    // ---- voices: a class of its own for each KIND

    private class Plain {
        int k;
        int m;

        int coughs(int x) { trace.add(10); return x + k; }
        int talks(int x) { trace.add(11); return coughs(x) * 2; }
        int hushes(int x) { trace.add(12); return talks(x) - m; }
        int parts(int x) { trace.add(13); ask(m != k, 6); return x / (m - k); }
    }

    private class Careful extends Plain {
        @Override int coughs(int x) { trace.add(20); return super.coughs(x) - 4; }
        @Override int parts(int x) { trace.add(21); return super.parts(x) + talks(1); }
    }

    private class Bold extends Plain {
        @Override int talks(int x) { trace.add(30); return 0 - super.talks(x); }
    }

    private class Tuesday extends Plain {
        @Override int hushes(int x) { trace.add(40); return super.hushes(x / 2); }
    }

    private class Mute extends Careful {
        @Override int coughs(int x) { trace.add(50); return super.coughs(x) * 3; }
        @Override int hushes(int x) { trace.add(51); return super.hushes(x) ^ k; }
    }

    private class Cougher extends Bold {
        @Override int talks(int x) { trace.add(60); return super.talks(x + 1); }
    }

    private class Lay extends Plain {
        @Override int coughs(int x) { trace.add(70); return 9; }
        @Override int talks(int x) { trace.add(71); return super.talks(x) + m; }
    }

    private int voice(int i, int voice, int x) {
        who(i);
        in(voice, 3);
        trace = new ArrayList<>();
        Brother b = now.brothers.get(i);
        Plain[] all = {new Plain(), new Careful(), new Bold(), new Tuesday(), new Mute(), new Cougher(), new Lay()};
        Plain one = all[b.kind];
        one.k = i;
        one.m = b.m;
        switch (voice) {
            case 0: return one.coughs(x);
            case 1: return one.talks(x);
            case 2: return one.hushes(x);
            default: return one.parts(x);
        }
    }

    // ---- sheets

    private int sheet(int sheet, int bits, int n) {
        in(sheet, 3);
        ask(Arrays.asList(0, 8, 16, 32).contains(bits), 1);
        if (bits == 0) {
            sheets[sheet] = null;
            return 1;
        }
        ask(n >= 0, 3);
        in(n, 24);
        sheets[sheet] = new long[n];
        widths[sheet] = bits;
        return 1;
    }

    private void there(int sheet) {
        in(sheet, 3);
        ask(sheets[sheet] != null, 2);
    }

    private int put(int sheet, int i, int v) {
        there(sheet);
        in(i, sheets[sheet].length - 1);
        sheets[sheet][i] = v & (1L << widths[sheet]) - 1;
        return 1;
    }

    private int move(int sheet, int i, int other, int j, int n) {
        in(sheet, 3);
        in(other, 3);
        there(sheet);
        there(other);
        ask(widths[sheet] == widths[other], 5);
        ask(n >= 0 && i >= 0 && j >= 0, 1);
        ask((long) i + n <= sheets[sheet].length && (long) j + n <= sheets[other].length, 1);
        long[] were = sheets[sheet].clone();
        for (int at = 0; at < n; at++) {
            sheets[other][j + at] = were[i + at];
        }
        return n;
    }

    private int signs(int sheet) {
        there(sheet);
        int many = 0;
        for (long v : sheets[sheet]) {
            if (v > 63 || now.signs.size() == 24) {
                break;
            }
            now.signs.add(new int[] {(int) v, breaks((int) v, now.vow) ? 1 : 0});
            many++;
        }
        return many;
    }

    private int judge(int sheet) {
        there(sheet);
        for (int s = 0; s < sheets[sheet].length; s++) {
            if (sheets[sheet][s] != broken(s)) {
                return s;
            }
        }
        return sheets[sheet].length;
    }

    // ---- what is told

    private int check() {
        List<Integer> all = now.waiting;
        now.waiting = new ArrayList<>();
        for (int i = 0; i < all.size(); i++) {
            if (i >= now.brothers.size() || now.brothers.get(i).said != all.get(i)) {
                return 1 + i;
            }
        }
        return 0;
    }

    private int count(int what) {
        in(what, 8);
        return new int[] {now.brothers.size(), now.signs.size(), now.day, now.worth, now.vow,
            now.tape.length(), now.waiting.size(), trace.size(), now.z}[what];
    }
}
