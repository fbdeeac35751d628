/**
 * Of several answers the first: BAD, NO, NONE, FULL. And nothing changes then: what was refused
 * leaves an object that tells all as one that was never asked.
 */
public final class RefusedTest {
    private static final String ORDER = "Of several the first; nothing changes then.";

    private RefusedTest() { }

    interface Ask { int of(CallSigns c); }

    public static void main(String[] args) {
        badForMoreThanItsRange();
        full();
        fullButBad();
        noAsThingsStand();
        noButBad();
        noAheadOfNone();
        none();
        noneButBad();
        Due.end("RefusedTest");
    }

    private static void refused(String what, States.Maker state, Ask ask, int due) {
        CallSigns c = state.make();
        Due.due(what, ask.of(c), due);
        States.alike("nothing changes: " + what, c, state.make());
    }

    private static void badForMoreThanItsRange() {
        Due.says(2, "BAD (from is to, too)");
        refused("call of 0 to itself", States::some, c -> c.call(0, 0, 100, 1, 0, 0), Due.BAD);
        refused("call of 11 to itself", States::some, c -> c.call(11, 11, 100, 1, 0, 0), Due.BAD);
        Due.says(12, "BAD (alike numbers, too)");
        refused("odds of 0 and 0", States::some, c -> c.odds(0, 0, 0), Due.BAD);
        refused("odds of the last and itself", States::some, c -> c.odds(19, 19, 1), Due.BAD);
        Due.says(21, "BAD (a is b, too)");
        refused("sign of 0 and 0", States::some, c -> c.sign(0, 0, 0, 1), Due.BAD);
        refused("sign of 11 and 11", States::some, c -> c.sign(11, 11, 0, 1), Due.BAD);
        Due.says(26, "not both 0");
        refused("bearing to nowhere", States::some, c -> c.bearing(0, 4, 2, 0, 0, 1), Due.BAD);
        Due.says(31, "BAD (t below s, too)");
        refused("silent ahead of hour 0", States::some, c -> c.silent(0, 0, 1), Due.BAD);
        Due.says(10, "The HAND of a CALL. BAD.");
        refused("hand of what is not there", States::empty, c -> c.hand(0), Due.BAD);
        refused("hand of a call behind the last", States::full, c -> c.hand(60), Due.BAD);
        refused("fate of what is not there", States::empty, c -> c.fate(0), Due.BAD);
        refused("fate of a call behind the last", States::full, c -> c.fate(60), Due.BAD);
        refused("odds of what is not there", States::empty, c -> c.odds(0, 1, 0), Due.BAD);
        refused("odds of a call behind the last", States::full, c -> c.odds(0, 60, 0), Due.BAD);
    }

    private static void full() {
        Due.says(2, "FULL: 60.");
        refused("call 60", States::full, c -> c.call(0, 1, 100, 1, 0, 0), Due.FULL);
        Due.says(3, "BAD; FULL.");
        refused("byte 201", States::full, c -> c.write(1, 0L), Due.FULL);
        refused("bytes 201 to 208", States::full, c -> c.write(8, 0L), Due.FULL);
        States.Maker nearlyFull = () -> {
            CallSigns c = States.some();
            c.wipe();
            Due.write(c, States.fullText().substring(0, 195));
            return c;
        };
        for (int n = 6; n <= 8; n++) {
            int bytes = n;
            refused(n + " bytes behind 195", nearlyFull, c -> c.write(bytes, 0x70_31_2C_31_3BL), Due.FULL);
        }
        Due.says(26, "FULL: 40.");
        refused("bearing 41", States::full, c -> c.bearing(0, 4, 2, 1, 0, 1), Due.FULL);
        Due.says(30, "FULL: 20.");
        refused("listened 21", States::full, c -> c.listen(0, 0, 479), Due.FULL);
        Due.says(32, "FULL: 10.");
        refused("event 11", States::full, c -> c.event(100), Due.FULL);
        Due.says(35, "KEPT: how many. FULL.");
        refused("kept 3", States::full, CallSigns::keep, Due.FULL);
    }

    private static void fullButBad() {
        Due.says(2, ORDER);
        refused("call", States::full, c -> c.call(0, 12, 100, 1, 0, 0), Due.BAD);
        refused("call to itself", States::full, c -> c.call(5, 5, 100, 1, 0, 0), Due.BAD);
        refused("call of no minutes", States::full, c -> c.call(0, 1, 100, 0, 0, 0), Due.BAD);
        Due.says(3, ORDER);
        refused("write of none", States::full, c -> c.write(0, 0L), Due.BAD);
        refused("write of nine", States::full, c -> c.write(9, 0L), Due.BAD);
        Due.says(26, ORDER);
        refused("bearing to nowhere", States::full, c -> c.bearing(0, 4, 2, 0, 0, 1), Due.BAD);
        refused("bearing too wide", States::full, c -> c.bearing(0, 4, 2, 1, 0, 21), Due.BAD);
        Due.says(30, ORDER);
        refused("listen with a above b", States::full, c -> c.listen(0, 5, 4), Due.BAD);
        refused("listen to wave 8", States::full, c -> c.listen(8, 5, 5), Due.BAD);
        Due.says(32, ORDER);
        refused("event", States::full, c -> c.event(480), Due.BAD);
    }

    private static CallSigns faulty() {
        CallSigns c = States.some();
        Due.write(c, "p1,1;p5,6;");
        return c;
    }

    private static void noAsThingsStand() {
        Due.says(6, "NO: a FAULT.");
        refused("take", RefusedTest::faulty, CallSigns::take, Due.NO);
        Due.says(14, "(NO: more than 8 SEND on either DAY.)");
        refused("follow with nine behind", States::some, c -> c.follow(4, 0, 0), Due.NO);
        refused("follow with nine ahead", States::some, c -> c.follow(5, 0, 1), Due.NO);
        refused("sum with nine behind", States::some, c -> c.sum(4), Due.NO);
        refused("sum with nine ahead", States::some, c -> c.sum(5), Due.NO);
        refused("rules with nine behind", States::some, c -> c.rules(4), Due.NO);
        refused("rules with nine ahead", States::some, c -> c.rules(5), Due.NO);
        Due.says(17, "NO: that pairing is NO");
        refused("trace", States::some, c -> c.trace(6, 10), Due.NO);
        Due.says(18, "NO: a NO on the way of one");
        refused("held", States::some, c -> c.held(6, 0), Due.NO);
        refused("held, right ones", States::some, c -> c.held(5, 1), Due.NO);
        Due.says(22, "(2 to 6; else NO)");
        for (int what = 0; what <= 2; what++) {
            int asked = what;
            refused("tree of ten, " + what, States::some, c -> c.tree(0, 5, 5, asked), Due.NO);
            refused("tree of none, " + what, States::some, c -> c.tree(0, 2, 4, asked), Due.NO);
            refused("tree of nothing, " + what, States::empty, c -> c.tree(0, 0, 19, asked), Due.NO);
        }
        Due.says(36, "As KEPT last: how many are left. NO.");
        refused("back", States::empty, CallSigns::back, Due.NO);
    }

    private static void noButBad() {
        Due.says(14, ORDER);
        refused("follow", States::some, c -> c.follow(5, 12, 0), Due.BAD);
        refused("follow, what", States::some, c -> c.follow(5, 0, 2), Due.BAD);
        Due.says(17, ORDER);
        refused("trace", States::some, c -> c.trace(6, 12), Due.BAD);
        Due.says(18, ORDER);
        refused("held", States::some, c -> c.held(6, 2), Due.BAD);
        Due.says(22, ORDER);
        refused("tree", States::some, c -> c.tree(12, 5, 5, 0), Due.BAD);
        refused("tree, what", States::some, c -> c.tree(0, 5, 5, 3), Due.BAD);
        refused("tree, d above e", States::some, c -> c.tree(0, 5, 4, 2), Due.BAD);
    }

    private static void noAheadOfNone() {
        Due.says(14, ORDER);
        refused("follow of one that does not send", States::some, c -> c.follow(5, 11, 0), Due.NO);
        refused("follow of one that does not send, sure", States::some, c -> c.follow(4, 11, 1), Due.NO);
        Due.says(22, ORDER);
        refused("tree of one that is not in it", States::some, c -> c.tree(11, 5, 5, 0), Due.NO);
        refused("link of one that is not in it", States::some, c -> c.tree(11, 5, 5, 1), Due.NO);
        Due.says(17, "what comes first on the way back");
        refused("trace of one that does not send", States::some, c -> c.trace(6, 0), Due.NONE);
    }

    private static void none() {
        Due.says(5, "FAULT. NONE.");
        refused("fault of an empty text", States::empty, CallSigns::fault, Due.NONE);
        refused("fault of a full one", States::full, CallSigns::fault, Due.NONE);
        Due.says(7, "NONE: it is not told");
        refused("name of an untold post", States::some, c -> c.name(2, 0), Due.NONE);
        Due.says(8, "NONE; BAD.");
        refused("post of an untold name", States::some, c -> c.post(2, 0), Due.NONE);
        Due.says(13, "NONE: one of them does not SEND");
        refused("like of one that does not send", States::some, c -> c.like(0, 5, 3), Due.NONE);
        refused("like to one that does not send", States::some, c -> c.like(0, 0, 0), Due.NONE);
        Due.says(14, "NONE: none, it does not SEND");
        refused("follow of one that does not send", States::some, c -> c.follow(0, 7, 0), Due.NONE);
        refused("follow to a day without calls", States::some, c -> c.follow(1, 3, 1), Due.NONE);
        Due.says(17, "NONE; NO; BAD.");
        refused("trace of one that does not send", States::some, c -> c.trace(1, 0), Due.NONE);
        Due.says(22, "NONE: ROOT, not in it");
        refused("tree of one that is not in it", States::some, c -> c.tree(9, 0, 0, 0), Due.NONE);
        refused("link of one that is not in it", States::some, c -> c.tree(9, 0, 0, 1), Due.NONE);
        Due.says(27, "NONE: no CELL");
        refused("middle of an empty patch", States::some, c -> c.patch(4, 3, 1), Due.NONE);
        Due.says(29, "MOVED. NONE; BAD.");
        refused("moved to an empty patch", States::some, c -> c.moved(4, 2, 3), Due.NONE);
        refused("moved from an empty patch", States::some, c -> c.moved(4, 3, 2), Due.NONE);
    }

    private static void noneButBad() {
        Due.says(7, ORDER);
        refused("name of an untold post", States::some, c -> c.name(2, 20), Due.BAD);
        Due.says(8, ORDER);
        refused("post of an untold name", States::some, c -> c.post(2, 20), Due.BAD);
        Due.says(13, ORDER);
        refused("like of one that does not send", States::some, c -> c.like(0, 5, 12), Due.BAD);
        refused("like to one that does not send", States::some, c -> c.like(0, 12, 0), Due.BAD);
        Due.says(14, ORDER);
        refused("follow of one that does not send", States::some, c -> c.follow(0, 7, 2), Due.BAD);
        Due.says(17, ORDER);
        refused("trace of one that does not send", States::some, c -> c.trace(20, 0), Due.BAD);
        Due.says(22, ORDER);
        refused("tree of one that is not in it", States::some, c -> c.tree(9, 0, 20, 0), Due.BAD);
        Due.says(27, ORDER);
        refused("middle of an empty patch", States::some, c -> c.patch(4, 3, 2), Due.BAD);
        Due.says(29, ORDER);
        refused("moved to an empty patch", States::some, c -> c.moved(12, 2, 3), Due.BAD);
    }
}
