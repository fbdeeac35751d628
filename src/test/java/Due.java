import java.io.IOException;
import java.nio.charset.StandardCharsets;
import java.nio.file.Files;
import java.nio.file.Path;
import java.util.Set;
import java.util.TreeSet;

/** What the tests share: answers held against those that are due, and short ways to fill an object. */
final class Due {
    static final int BAD = -1, NO = -2, FULL = -3, NONE = -4;
    private static final Set<Integer> PROMISES = new TreeSet<>();
    private static int wrong = 0;
    private static int asked = 0;
    private static String sentence = "";
    private static String document = null;

    private Due() { }

    static void due(String what, int got, int want) {
        asked++;
        if (got != want) {
            wrong++;
            System.out.println(sentence + what + " answered " + got + ", due is " + want);
        }
    }

    static void holds(String what, boolean so) {
        due(what, so ? 1 : 0, 1);
    }

    /** What follows holds the class to these words, which stand in the promise or in the Terms. */
    static void says(int promise, String words) {
        sentence = "";
        String doc = document();
        int start = doc.indexOf("## Promise " + promise + ":");
        int end = doc.indexOf("\n## ", start + 1);
        String terms = doc.substring(0, doc.indexOf("## Promise 1:"));
        holds("the document says for promise " + promise + ": " + words,
                start >= 0 && (doc.substring(start, end).contains(words) || terms.contains(words)));
        PROMISES.add(promise);
        sentence = promise + " (" + words + "): ";
    }

    static String document() {
        if (document == null) {
            try {
                document = Files.readString(Path.of(System.getProperty("doc", "../shared/DOC.md")));
            } catch (IOException e) {
                throw new IllegalStateException("the document is not where it should be", e);
            }
        }
        return document;
    }

    /** The end of a test that quotes the document for each of these promises. */
    static void end(String test, int firstPromise, int lastPromise) {
        sentence = "";
        for (int promise = firstPromise; promise <= lastPromise; promise++) {
            holds("promise " + promise + " is tested", PROMISES.contains(promise));
        }
        end(test);
    }

    static void end(String test) {
        System.out.println(test + ": " + asked + " answers, " + wrong + " not as due");
        if (wrong != 0 || asked == 0) System.exit(1);
    }

    static void write(CallSigns c, String text) {
        byte[] bytes = text.getBytes(StandardCharsets.ISO_8859_1);
        for (int at = 0; at < bytes.length; ) {
            int n = Math.min(8, bytes.length - at);
            long v = 0;
            for (int i = 0; i < n; i++) v = v << 8 | bytes[at + i] & 255;
            c.write(n, v);
            at += n;
        }
    }

    static int take(CallSigns c, String text) {
        c.wipe();
        write(c, text);
        return c.take();
    }

    /** A CallSigns with these CALLS: rows of from, to, hour, minutes, wave, pause. */
    static CallSigns with(int[]... calls) {
        CallSigns c = new CallSigns();
        add(c, calls);
        return c;
    }

    static void add(CallSigns c, int[]... calls) {
        for (int[] a : calls) {
            if (c.call(a[0], a[1], a[2], a[3], a[4], a[5]) < 0) throw new IllegalArgumentException("no such call");
        }
    }

    static int[] row(int... numbers) {
        return numbers;
    }

    /** A CALL of which only who SENDS, when, on which WAVE and with which PAUSE matters. */
    static int[] on(int day, int name, int hourOfDay, int wave, int pause) {
        return row(name, (name + 1) % 12, 24 * day + hourOfDay, 1, wave, pause);
    }

    /** A CALL of which only from whom, to whom, when and how long matters. */
    static int[] at(int from, int to, int hour, int minutes) {
        return row(from, to, hour, minutes, 0, 0);
    }
}
