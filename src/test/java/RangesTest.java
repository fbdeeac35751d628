import java.util.ArrayList;
import java.util.List;

/**
 * Every number of every call at both ends of what is told: the last that is told is not BAD, the
 * first that is not told is BAD and changes nothing. A question changes nothing at all.
 */
public final class RangesTest {
    private static final List<Argument> ARGUMENTS = new ArrayList<>();

    private RangesTest() { }

    interface Ask { int of(CallSigns c, int number); }

    record Argument(int promise, String words, boolean asks, int least, int most, Ask ask) { }

    public static void main(String[] args) {
        callsAndBook();
        hands();
        names();
        orders();
        places();
        silence();
        for (Argument argument : ARGUMENTS) hold(argument);
        Due.end("RangesTest");
    }

    private static void hold(Argument a) {
        Due.says(a.promise, a.words);
        for (int told : new int[] {a.least, a.most}) {
            CallSigns c = States.some();
            Due.holds(told + " is not BAD", a.ask.of(c, told) != Due.BAD);
            if (a.asks) States.alike("asked with " + told, c, States.some());
        }
        for (int untold : new int[] {a.least - 1, a.most + 1, Integer.MIN_VALUE, Integer.MAX_VALUE}) {
            CallSigns c = States.some();
            Due.due("with " + untold, a.ask.of(c, untold), Due.BAD);
            States.alike("nothing changes with " + untold, c, States.some());
        }
    }

    private static void change(int promise, String words, int least, int most, Ask ask) {
        ARGUMENTS.add(new Argument(promise, words, false, least, most, ask));
    }

    private static void question(int promise, String words, int least, int most, Ask ask) {
        ARGUMENTS.add(new Argument(promise, words, true, least, most, ask));
    }

    private static void callsAndBook() {
        change(2, "NAMES 0 to 11", 0, 11, (c, n) -> c.call(n, 5, 100, 1, 0, 0));
        change(2, "NAMES 0 to 11", 0, 11, (c, n) -> c.call(5, n, 100, 1, 0, 0));
        change(2, "HOURS 0 to 479", 0, 479, (c, n) -> c.call(0, 1, n, 1, 0, 0));
        change(2, "minutes (1 to 99)", 1, 99, (c, n) -> c.call(0, 1, 100, n, 0, 0));
        change(2, "WAVES 0 to 7", 0, 7, (c, n) -> c.call(0, 1, 100, 1, n, 0));
        change(2, "a PAUSE (0 to 99)", 0, 99, (c, n) -> c.call(0, 1, 100, 1, 0, n));
        change(3, "n bytes (1 to 8) of v", 1, 8, (c, n) -> c.write(n, 0x7030_2C30_3B70_312CL));
        question(7, "POST P (0 to 11)", 0, 11, (c, n) -> c.name(n, 3));
        question(7, "DAYS 0 to 19", 0, 19, (c, n) -> c.name(0, n));
        question(8, "NAMES 0 to 11", 0, 11, (c, n) -> c.post(n, 3));
        question(8, "DAYS 0 to 19", 0, 19, (c, n) -> c.post(0, n));
    }

    private static void hands() {
        int last = States.CALLS_OF_SOME - 1;
        change(9, "(0 to 99; 3 at first)", 0, 99, CallSigns::apart);
        question(10, "The HAND of a CALL. BAD.", 0, last, CallSigns::hand);
        question(12, "ODDS of two CALLS", 0, last, (c, n) -> c.odds(n, 5, 0));
        question(12, "ODDS of two CALLS", 0, last, (c, n) -> c.odds(5, n, 1));
        question(12, "how many (what = 0), of how many (1). BAD", 0, 1, (c, n) -> c.odds(0, 1, n));
        question(20, "Of a CALL: 1 ANSWERED, 2 PASSED ON (both: 3). BAD.", 0, last, CallSigns::fate);
    }

    private static void names() {
        question(13, "a DAY (0 to 18)", 0, 18, (c, n) -> c.like(n, 0, 3));
        question(13, "NAMES 0 to 11", 0, 11, (c, n) -> c.like(0, n, 3));
        question(13, "NAMES 0 to 11", 0, 11, (c, n) -> c.like(0, 0, n));
        question(14, "a DAY (0 to 18) to the next", 0, 18, (c, n) -> c.follow(n, 0, 0));
        question(14, "NAMES 0 to 11", 0, 11, (c, n) -> c.follow(0, n, 0));
        question(14, "becomes (what = 0), 1 if that is SURE, 0 (1)", 0, 1, (c, n) -> c.follow(0, 0, n));
        question(15, "a DAY (0 to 18)", 0, 18, CallSigns::sum);
        question(16, "a DAY (0 to 18)", 0, 18, CallSigns::rules);
        question(17, "DAYS 0 to 19", 0, 19, (c, n) -> c.trace(n, 3));
        question(17, "NAMES 0 to 11", 0, 11, (c, n) -> c.trace(1, n));
        question(18, "DAYS 0 to 19", 0, 19, (c, n) -> c.held(n, 0));
        question(18, "how many (what = 0), how many right ones (1)", 0, 1, (c, n) -> c.held(1, n));
    }

    private static void orders() {
        change(19, "H 1 to 23; 2 at first", 1, 23, CallSigns::within);
        question(21, "NAMES 0 to 11", 0, 11, (c, n) -> c.sign(n, 5, 0, 1));
        question(21, "NAMES 0 to 11", 0, 11, (c, n) -> c.sign(5, n, 0, 1));
        question(22, "NAMES 0 to 11", 0, 11, (c, n) -> c.tree(n, 0, 0, 0));
        question(22, "NAMES 0 to 11", 0, 11, (c, n) -> c.tree(n, 0, 0, 1));
        question(22, "whom a NAME is below (what = 0; NONE: ROOT, not in it), 1 if that LINK is SURE, 0 (1; NONE likewise), the sum (2",
                0, 2, (c, n) -> c.tree(1, 0, 0, n));
        question(23, "NAMES 0 to 11", 0, 11, (c, n) -> c.lacks(n, 0, 1));
        span(21, (c, d, e) -> c.sign(0, 1, d, e));
        span(22, (c, d, e) -> c.tree(1, d, e, 0));
        span(22, (c, d, e) -> c.tree(1, d, e, 1));
        span(22, (c, d, e) -> c.tree(1, d, e, 2));
        span(23, (c, d, e) -> c.lacks(0, d, e));
        span(24, (c, d, e) -> c.show(d, e));
        span(34, (c, d, e) -> c.waves(2, d, e, 0));
        span(34, (c, d, e) -> c.waves(2, d, e, 1));
        span(34, (c, d, e) -> c.waves(2, d, e, 2));
    }

    interface AskOfDays { int of(CallSigns c, int d, int e); }

    private static void span(int promise, AskOfDays ask) {
        question(promise, "DAYS 0 to 19", 0, 19, (c, n) -> ask.of(c, n, 19));
        question(promise, "DAYS 0 to 19", 0, 19, (c, n) -> ask.of(c, 0, n));
        question(promise, "d above e, too", 0, 7, (c, n) -> ask.of(c, n, 7));
        question(promise, "d above e, too", 7, 19, (c, n) -> ask.of(c, 7, n));
    }

    private static void places() {
        change(25, "HEARERS 0 to 3", 0, 3, (c, n) -> c.hearer(n, 7, 7));
        change(25, "CELLS (x, y) (0 to 15; (0, 0) at first)", 0, 15, (c, n) -> c.hearer(1, n, 7));
        change(25, "CELLS (x, y) (0 to 15; (0, 0) at first)", 0, 15, (c, n) -> c.hearer(1, 7, n));
        change(26, "HEARERS 0 to 3", 0, 3, (c, n) -> c.bearing(n, 4, 2, 1, 0, 1));
        change(26, "NAMES 0 to 11", 0, 11, (c, n) -> c.bearing(0, n, 2, 1, 0, 1));
        change(26, "DAYS 0 to 19", 0, 19, (c, n) -> c.bearing(0, 4, n, 1, 0, 1));
        change(26, "(u, v) (-9 to 9 each, not both 0)", -9, 9, (c, n) -> c.bearing(0, 4, 2, n, 1, 1));
        change(26, "(u, v) (-9 to 9 each, not both 0)", -9, 9, (c, n) -> c.bearing(0, 4, 2, 1, n, 1));
        change(26, "w (1 to 20)", 1, 20, (c, n) -> c.bearing(0, 4, 2, 1, 0, n));
        question(27, "NAMES 0 to 11", 0, 11, (c, n) -> c.patch(n, 2, 0));
        question(27, "DAYS 0 to 19", 0, 19, (c, n) -> c.patch(4, n, 1));
        question(27, "how many CELLS (what = 0), MIDDLE as 16 x and y (1", 0, 1, (c, n) -> c.patch(4, 2, n));
        question(28, "NAMES 0 to 11", 0, 11, (c, n) -> c.isIn(n, 2, 7, 7));
        question(28, "DAYS 0 to 19", 0, 19, (c, n) -> c.isIn(4, n, 7, 7));
        question(28, "CELLS (x, y) (0 to 15; (0, 0) at first)", 0, 15, (c, n) -> c.isIn(4, 2, n, 7));
        question(28, "CELLS (x, y) (0 to 15; (0, 0) at first)", 0, 15, (c, n) -> c.isIn(4, 2, 7, n));
        question(29, "NAMES 0 to 11", 0, 11, (c, n) -> c.moved(n, 2, 4));
        question(29, "DAYS 0 to 19", 0, 19, (c, n) -> c.moved(4, n, 4));
        question(29, "DAYS 0 to 19", 0, 19, (c, n) -> c.moved(4, 2, n));
    }

    private static void silence() {
        change(30, "WAVES 0 to 7", 0, 7, (c, n) -> c.listen(n, 5, 90));
        change(30, "HOURS 0 to 479", 0, 479, (c, n) -> c.listen(0, n, 479));
        change(30, "HOURS 0 to 479", 0, 479, (c, n) -> c.listen(0, 0, n));
        change(30, "BAD (a above b)", 0, 90, (c, n) -> c.listen(0, n, 90));
        change(30, "BAD (a above b)", 90, 479, (c, n) -> c.listen(0, 90, n));
        question(31, "NAMES 0 to 11", 0, 11, (c, n) -> c.silent(n, 100, 5));
        question(31, "BAD (t below s, too)", 1, 479, (c, n) -> c.silent(0, n, 1));
        question(31, "BAD (t below s, too)", 48, 479, (c, n) -> c.silent(0, n, 48));
        question(31, "for s HOURS (1 to 48)", 1, 48, (c, n) -> c.silent(0, 479, n));
        question(31, "(t is s or more)", 1, 5, (c, n) -> c.silent(0, 5, n));
        change(32, "HOURS 0 to 479", 0, 479, CallSigns::event);
        question(33, "NAMES 0 to 11", 0, 11, (c, n) -> c.ahead(n, 5, 0));
        for (int what = 0; what <= 3; what++) {
            int asked = what;
            question(33, "for s HOURS (1 to 48)", 1, 48, (c, n) -> c.ahead(0, n, asked));
        }
        question(33, "how many (what = 0), of how many (1); of all HOURS likewise (2, 3)", 0, 3, (c, n) -> c.ahead(0, 5, n));
        question(34, "k of them (1 to 8)", 1, 8, (c, n) -> c.waves(n, 0, 19, 0));
        question(34, "as bits (what = 0), how many LINKS (1), of how many (2)", 0, 2, (c, n) -> c.waves(2, 0, 19, n));
        question(37, "0 CALLS, 1 bytes of THE TEXT, 2 ITEMS TAKEN, 3 BEARINGS, 4 LISTENED, 5 EVENTS, 6 KEPT. BAD.",
                0, 6, CallSigns::count);
    }
}
