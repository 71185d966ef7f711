/** Promises 26 and 27: VOICES and THE TRACE. */
final class VoicesTest {
    public static void main(String[] args) {
        everyVoice();
        numberAndNotKind();
        wraps();
        parted();
        trace();
        wrongCalls();
        Due.end();
    }

    /** BROTHERS 0 and 1 are in the way, so that the one who speaks is number 2. */
    private static ParrotVow third(int km) {
        ParrotVow x = new ParrotVow();
        x.brother(0);
        x.brother(0);
        x.brother(km);
        return x;
    }

    private static void voice(int km, int voice, int v, int want, int... bodies) {
        ParrotVow x = third(km);
        String call = "km " + km + " voice(2, " + voice + ", " + v + ")";
        Due.due(call, x.voice(2, voice, v), want);
        Due.due(call + ": count(7)", x.count(7), bodies.length);
        for (int i = 0; i < bodies.length; i++) {
            Due.due(call + ": body(" + i + ")", x.body(i), bodies[i]);
        }
        Due.due(call + ": body behind", x.body(bodies.length), Due.NONE);
    }

    private static void everyVoice() {
        voice(5, 0, 7, 9, 10);
        voice(5, 1, 7, 18, 11, 10);
        voice(5, 2, 7, 13, 12, 11, 10);
        voice(5, 3, 7, 2, 13);
        voice(15, 0, 7, 5, 20, 10);
        voice(15, 1, 7, 10, 11, 20, 10);
        voice(15, 2, 7, 5, 12, 11, 20, 10);
        voice(15, 3, 7, 2 + -2, 21, 13, 11, 20, 10);
        voice(25, 0, 7, 9, 10);
        voice(25, 1, 7, -18, 30, 11, 10);
        voice(25, 2, 7, -23, 12, 30, 11, 10);
        voice(25, 3, 7, 2, 13);
        voice(35, 0, 7, 9, 10);
        voice(35, 1, 7, 18, 11, 10);
        voice(35, 2, 7, 5, 40, 12, 11, 10);
        voice(35, 2, -7, -7, 40, 12, 11, 10);
        voice(35, 3, 7, 2, 13);
        voice(45, 0, 7, 15, 50, 20, 10);
        voice(45, 1, 7, 30, 11, 50, 20, 10);
        voice(45, 2, 7, 25 ^ 2, 51, 12, 11, 50, 20, 10);
        voice(45, 2, 8, 31 ^ 2, 51, 12, 11, 50, 20, 10);
        voice(45, 3, 7, 2 + -6, 21, 13, 11, 50, 20, 10);
        voice(55, 0, 7, 9, 10);
        voice(55, 1, 7, -20, 60, 30, 11, 10);
        voice(55, 2, 7, -25, 12, 60, 30, 11, 10);
        voice(55, 3, 7, 2, 13);
        voice(65, 0, 7, 9, 70);
        voice(65, 1, 7, 23, 71, 11, 70);
        voice(65, 2, 7, 18, 12, 71, 11, 70);
        voice(65, 3, 7, 2, 13);
    }

    /** k is which of the BROTHERS he is, whatever his KIND. */
    private static void numberAndNotKind() {
        ParrotVow x = new ParrotVow();
        x.brother(23);
        x.brother(3);
        x.brother(49);
        Due.due("BROTHER 0 coughs", x.voice(0, 0, 10), 10);
        Due.due("BROTHER 1 coughs", x.voice(1, 0, 10), 11);
        Due.due("BROTHER 0 parts", x.voice(0, 3, 10), 3);
        Due.due("BROTHER 1 parts", x.voice(1, 3, 10), 5);
        Due.due("BROTHER 2 coughs", x.voice(2, 0, 10), 24);
        x.become(2, 0);
        Due.due("BROTHER 2 coughs as another", x.voice(2, 0, 10), 12);
        Due.due("BROTHER 2 parts with less than 0", x.voice(2, 3, 9), -4);
        Due.due("and from below 0", x.voice(2, 3, -9), 4);
    }

    private static void wraps() {
        int most = Integer.MAX_VALUE;
        int least = Integer.MIN_VALUE;
        voice(5, 0, most, least + 1, 10);
        voice(5, 1, most, 2 * (least + 1), 11, 10);
        voice(1, 3, least, least, 13);
        voice(55, 1, most, 0 - 2 * (least + 2), 60, 30, 11, 10);
        ParrotVow x = third(0);
        Due.due("an answer like an ERROR", x.voice(2, 0, Due.NONE - 2), Due.NONE);
        Due.due("is none", x.told(2), 0);
    }

    private static void parted() {
        ParrotVow x = third(2);
        Due.due("voice(2, 3, 5)", x.voice(2, 3, 5), Due.PARTED);
        Due.due("told(6)", x.told(6), 1);
        Due.due("THE TRACE is of it", x.count(7), 1);
        Due.due("body(0)", x.body(0), 13);
        x.become(2, 12);
        Due.due("CAREFUL: PARTED is all", x.voice(2, 3, 5), Due.PARTED);
        Due.due("nothing began behind 13", x.count(7), 2);
        Due.due("body(0)", x.body(0), 21);
        Due.due("body(1)", x.body(1), 13);
        Due.due("the next voice", x.voice(2, 0, 5), 3);
        Due.due("told(6)", x.told(6), 2);
        Due.due("voice(0, 3, 5)", x.voice(0, 3, 5), Due.PARTED);
        Due.due("voice(1, 3, 5)", x.voice(1, 3, 5), -5);
    }

    private static void trace() {
        ParrotVow x = third(45);
        Due.due("body(0) at first", x.body(0), Due.NONE);
        Due.due("count(7) at first", x.count(7), 0);
        x.voice(2, 3, 7);
        Due.due("count(7)", x.count(7), 6);
        x.voice(2, 4, 7);
        Due.due("count(7) after a wrong call", x.count(7), 6);
        x.image();
        x.voice(2, 0, 7);
        Due.due("the latest alone", x.count(7), 3);
        x.restore();
        Due.due("THE TRACE is in no IMAGE", x.count(7), 3);
        Due.due("body(0)", x.body(0), 50);
    }

    private static void wrongCalls() {
        Due.refused("voice(3, 0, 0)", Due::busy, y -> y.voice(3, 0, 0), Due.BEYOND);
        Due.refused("voice(-1, 0, 0)", Due::busy, y -> y.voice(-1, 0, 0), Due.BEYOND);
        Due.refused("voice(0, 4, 0)", Due::busy, y -> y.voice(0, 4, 0), Due.BEYOND);
        Due.refused("voice(0, -1, 0)", Due::busy, y -> y.voice(0, -1, 0), Due.BEYOND);
        Due.refused("body(-1)", Due::busy, y -> y.body(-1), Due.NONE);
        Due.refused("body(4)", Due::busy, y -> y.body(4), Due.NONE);
        Due.refused("body(30)", Due::busy, y -> y.body(30), Due.NONE);
        Due.idle("body(0)", Due::busy, y -> y.body(0), 12);
    }
}
