import java.nio.charset.StandardCharsets;

/** What the tests share: answers held against those that are due, and short ways to fill an object. */
final class Due {
    static final int BAD = -1, NO = -2, FULL = -3, NONE = -4;
    private static int wrong = 0;
    private static int asked = 0;

    private Due() { }

    static void due(String what, int got, int want) {
        asked++;
        if (got != want) {
            wrong++;
            System.out.println(what + " answered " + got + ", due is " + want);
        }
    }

    static void holds(String what, boolean so) {
        due(what, so ? 1 : 0, 1);
    }

    static void end(String test) {
        System.out.println(test + ": " + asked + " answers, " + wrong + " not as due");
        if (wrong != 0 || asked == 0) System.exit(1);
    }

    interface OfOne { int of(int number); }

    /** A number may be least to most; what is beside it is BAD, and so is what is far off. */
    static void range(String what, OfOne call, int least, int most) {
        for (int wrongOne : new int[] {least - 1, most + 1, Integer.MIN_VALUE, Integer.MAX_VALUE}) {
            due(what + " with " + wrongOne, call.of(wrongOne), BAD);
        }
        holds(what + " with " + least + " is not BAD", call.of(least) != BAD);
        holds(what + " with " + most + " is not BAD", call.of(most) != BAD);
    }

    static void write(CallSigns c, String text) {
        byte[] bytes = text.getBytes(StandardCharsets.ISO_8859_1);
        for (int at = 0; at < bytes.length; ) {
            int n = Math.min(8, bytes.length - at);
            long v = 0;
            for (int i = 0; i < n; i++) v = v << 8 | bytes[at + i] & 255;
            c.write(n, v);
            at += n;
        }
    }

    static int take(CallSigns c, String text) {
        c.wipe();
        write(c, text);
        return c.take();
    }

    /** A CallSigns with these CALLS: rows of from, to, hour, minutes, wave, pause. */
    static CallSigns with(int[]... calls) {
        CallSigns c = new CallSigns();
        add(c, calls);
        return c;
    }

    static void add(CallSigns c, int[]... calls) {
        for (int[] a : calls) {
            if (c.call(a[0], a[1], a[2], a[3], a[4], a[5]) < 0) throw new IllegalArgumentException("no such call");
        }
    }

    static int[] row(int... numbers) {
        return numbers;
    }
}
