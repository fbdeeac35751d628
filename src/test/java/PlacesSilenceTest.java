/** Promises 25 to 37: hearer, bearing, patch, isIn, moved, listen, silent, event, ahead, waves, keep, back, count. */
public final class PlacesSilenceTest {
    private PlacesSilenceTest() { }

    public static void main(String[] args) {
        hearer();
        bearing();
        patch();
        fits();
        moved();
        listen();
        silent();
        event();
        ahead();
        waves();
        keepAndBack();
        keptTwice();
        goneCalls();
        count();
        Due.end("PlacesSilenceTest");
    }

    private static void hearer() {
        CallSigns c = new CallSigns();
        Due.due("25: at first", c.hearer(2, 15, 3), 0);
        Due.due("25: then", c.hearer(2, 4, 15), 243);
        Due.due("25: the others are where they were", c.hearer(1, 0, 0), 0);
        Due.due("25: BAD", c.hearer(2, 16, 0), Due.BAD);
        Due.due("25: unchanged", c.hearer(2, 0, 0), 79);
    }

    private static void bearing() {
        CallSigns c = new CallSigns();
        Due.due("26: one", c.bearing(0, 0, 0, 1, 0, 1), 1);
        Due.due("26: the same again", c.bearing(0, 0, 0, 1, 0, 1), 2);
        Due.due("26: no direction", c.bearing(0, 0, 0, 0, 0, 1), Due.BAD);
        Due.due("26: BAD is not counted", c.count(3), 2);
        for (int i = 3; i <= 40; i++) Due.due("26: how many", c.bearing(3, 5, 5, 0, 9, 20), i);
        Due.due("26: 40 are all", c.bearing(3, 5, 5, 0, 9, 20), Due.FULL);
        Due.due("26: BAD ahead of FULL", c.bearing(4, 5, 5, 0, 9, 20), Due.BAD);
        Due.due("26: 40", c.count(3), 40);
    }

    private static void patch() {
        CallSigns c = new CallSigns();
        Due.due("27: all without bearings", c.patch(3, 3, 0), 256);
        Due.due("27: 7.5 is cut", c.patch(3, 3, 1), 16 * 7 + 7);
        // East of (5, 5), with w 1: ten times what is off is no more than what is along.
        c.hearer(1, 5, 5);
        c.bearing(1, 3, 3, 1, 0, 1);
        Due.due("27: ten on the line, and (15, 4), (15, 6)", c.patch(3, 3, 0), 12);
        // x: 6 to 15 is 105, and 30 more: 135 by 12 is 11; y: 60 by 12.
        Due.due("27: middle", c.patch(3, 3, 1), 16 * 11 + 5);
        Due.due("27: another day", c.patch(3, 4, 0), 256);
        Due.due("27: another name", c.patch(4, 3, 0), 256);
        c.bearing(1, 3, 3, -1, 0, 20);
        Due.due("27: two that do not cross", c.patch(3, 3, 0), 0);
        Due.due("27: no middle", c.patch(3, 3, 1), Due.NONE);
        c.bearing(0, 2, 0, 9, 9, 1);
        c.hearer(0, 14, 14);
        Due.due("27: as the hearer is now: (15, 15)", c.patch(2, 0, 0), 1);
        Due.due("27: the middle of one", c.patch(2, 0, 1), 255);
        c.hearer(0, 15, 15);
        Due.due("27: not its own cell", c.patch(2, 0, 0), 0);
        // From (0, 15) down: the column, and what is no farther off than 0.1 along.
        c.hearer(2, 0, 15);
        c.bearing(2, 1, 0, 0, -3, 1);
        Due.due("27: 15 and six beside", c.patch(1, 0, 0), 21);
        // x: 6 by 21; y: 0 to 14 and 0 to 5 are 120 by 21.
        Due.due("27: middle", c.patch(1, 0, 1), 5);
    }

    private static void fits() {
        CallSigns c = new CallSigns();
        c.hearer(0, 8, 8);
        c.bearing(0, 6, 7, 1, 0, 5);
        Due.due("28: on the line", c.isIn(6, 7, 9, 8), 1);
        Due.due("28: its own cell", c.isIn(6, 7, 8, 8), 0);
        Due.due("28: behind it", c.isIn(6, 7, 7, 8), 0);
        Due.due("28: beside it", c.isIn(6, 7, 8, 9), 0);
        Due.due("28: 1 off by 2 along is just 5 of 10", c.isIn(6, 7, 10, 9), 1);
        Due.due("28: on the other side too", c.isIn(6, 7, 10, 7), 1);
        Due.due("28: 1 off by 1 along", c.isIn(6, 7, 9, 9), 0);
        Due.due("28: 2 off by 3 along", c.isIn(6, 7, 11, 6), 0);
        Due.due("28: 2 off by 4 along", c.isIn(6, 7, 12, 6), 1);
        c.bearing(0, 6, 7, 3, 1, 1);
        Due.due("28: along (3, 1)", c.isIn(6, 7, 11, 9), 1);
        Due.due("28: that is off (3, 1)", c.isIn(6, 7, 9, 8), 0);
        c.bearing(1, 6, 7, 1, 1, 20);
        Due.due("28: of another hearer", c.isIn(6, 7, 11, 9), 1);
        c.hearer(1, 9, 0);
        Due.due("28: that went elsewhere", c.isIn(6, 7, 11, 9), 1);
        c.hearer(1, 15, 15);
        Due.due("28: beyond it", c.isIn(6, 7, 11, 9), 0);
        Due.due("28: another day", c.isIn(6, 8, 0, 0), 1);
    }

    private static void moved() {
        CallSigns c = new CallSigns();
        c.hearer(0, 14, 14);
        c.hearer(1, 1, 1);
        c.bearing(0, 5, 0, 1, 1, 1);
        c.bearing(1, 5, 1, -1, -1, 1);
        Due.due("29: from (15, 15) to (0, 0)", c.moved(5, 0, 1), 15);
        Due.due("29: and back", c.moved(5, 1, 0), 15);
        Due.due("29: to itself", c.moved(5, 0, 0), 0);
        Due.due("29: anywhere", c.moved(5, 0, 2), 0);
        Due.due("29: without bearings", c.moved(6, 0, 1), 0);
        c.hearer(0, 7, 14);
        c.bearing(2, 5, 0, 8, 9, 20);
        // With w 1 up from (7, 14) along (1, 1) there is (8, 15) alone.
        Due.due("27: one cell", c.patch(5, 0, 0), 1);
        Due.due("29: the greater difference is y", c.moved(5, 0, 1), 15);
        c.hearer(1, 4, 13);
        // Down from (4, 13) along (-1, -1): (3, 12) to (0, 9).
        Due.due("29: from (8, 15) to (3, 12)", c.moved(5, 0, 1), 5);
        c.hearer(1, 9, 13);
        Due.due("29: from (8, 15) to (8, 12), (7, 11), ..", c.moved(5, 0, 1), 3);
        Due.due("29: the other way", c.moved(5, 1, 0), 3);
        c.bearing(0, 5, 3, 1, 0, 1);
        c.bearing(0, 5, 3, -1, 0, 1);
        Due.due("29: to an empty one", c.moved(5, 0, 3), Due.NONE);
        Due.due("29: from an empty one", c.moved(5, 3, 0), Due.NONE);
        Due.due("29: an empty one to itself", c.moved(5, 3, 3), Due.NONE);
    }

    private static void listen() {
        CallSigns c = new CallSigns();
        Due.due("30: one", c.listen(0, 0, 479), 1);
        Due.due("30: one hour", c.listen(7, 5, 5), 2);
        Due.due("30: a above b", c.listen(7, 6, 5), Due.BAD);
        for (int i = 3; i <= 20; i++) Due.due("30: how many", c.listen(1, 1, 2), i);
        Due.due("30: 20 are all", c.listen(1, 1, 2), Due.FULL);
        Due.due("30: BAD ahead of FULL", c.listen(1, 2, 1), Due.BAD);
        Due.due("30: 20", c.count(4), 20);
    }

    private static void silent() {
        CallSigns c = Due.with(Due.row(2, 3, 100, 1, 4, 0), Due.row(3, 2, 110, 1, 5, 0));
        Due.due("31: not listened to", c.silent(2, 50, 5), 0);
        c.listen(4, 40, 60);
        Due.due("31: listened to", c.silent(2, 50, 5), 1);
        Due.due("31: from the first hour on", c.silent(2, 45, 5), 1);
        Due.due("31: one hour ahead of it", c.silent(2, 45, 6), 0);
        Due.due("31: to the last hour", c.silent(2, 61, 21), 1);
        Due.due("31: behind it", c.silent(2, 62, 1), 0);
        c.listen(4, 62, 120);
        Due.due("31: a gap at 61", c.silent(2, 63, 5), 0);
        c.listen(4, 61, 61);
        Due.due("31: the gap is closed", c.silent(2, 63, 5), 1);
        Due.due("31: up to its call", c.silent(2, 100, 40), 1);
        Due.due("31: with its call", c.silent(2, 101, 1), 0);
        Due.due("31: behind its call", c.silent(2, 102, 1), 1);
        Due.due("31: behind its call, longer", c.silent(2, 102, 2), 0);
        Due.due("31: calls to it do not count", c.silent(2, 115, 10), 1);
        Due.due("31: another wave", c.silent(3, 50, 5), 0);
        c.listen(5, 40, 60);
        Due.due("31: its wave", c.silent(3, 50, 5), 1);
        Due.due("31: without any call", c.silent(7, 50, 5), 0);
        c.call(2, 0, 479, 1, 6, 0);
        Due.due("31: each wave with any call", c.silent(2, 50, 5), 0);
        c.listen(6, 46, 479);
        Due.due("31: both", c.silent(2, 51, 5), 1);
        Due.due("31: not both", c.silent(2, 51, 6), 0);
        Due.due("31: t below s", c.silent(2, 4, 5), Due.BAD);
        Due.due("31: t is s", c.silent(2, 5, 5), 0);
    }

    private static void event() {
        CallSigns c = new CallSigns();
        for (int i = 1; i <= 10; i++) Due.due("32: how many", c.event(7), i);
        Due.due("32: 10 are all", c.event(7), Due.FULL);
        Due.due("32: BAD ahead of FULL", c.event(480), Due.BAD);
        Due.due("32: 10", c.count(5), 10);
    }

    private static void ahead() {
        CallSigns c = Due.with(Due.row(0, 1, 20, 1, 0, 0));
        c.listen(0, 10, 29);
        for (int hour : new int[] {2, 3, 13, 20, 21, 24, 30, 31, 13}) c.event(hour);
        // With s 3 SILENT ahead of 13 to 20 and 24 to 30.
        Due.due("33: events", c.ahead(0, 3, 0), 5);
        Due.due("33: of those in hours 3 and later", c.ahead(0, 3, 1), 8);
        Due.due("33: hours", c.ahead(0, 3, 2), 15);
        Due.due("33: of all", c.ahead(0, 3, 3), 477);
        Due.due("33: a long one", c.ahead(0, 10, 0), 1);
        Due.due("33: longer", c.ahead(0, 11, 2), 0);
        Due.due("33: of which", c.ahead(0, 11, 1), 7);
        Due.due("33: the first event counts", Due.with().ahead(0, 2, 1), 0);
        Due.due("33: in hours 2 and later", c.ahead(0, 2, 1), 9);
        Due.due("33: another one", c.ahead(1, 3, 0), 0);
        Due.due("33: another one", c.ahead(1, 3, 2), 0);
        Due.due("33: of as many", c.ahead(1, 3, 1), 8);
        Due.due("33: of as many", c.ahead(1, 48, 3), 432);
        c.listen(0, 0, 479);
        Due.due("33: all but the hour behind its call", c.ahead(0, 1, 2), 478);
        Due.due("33: what is ahead of hour 3 does not count", c.ahead(0, 3, 0), 7);
    }

    private static void waves() {
        // LINKS: 0 to 1 on waves 2 and 7, 1 to 0 on 7, 0 to 2 on 3, 4 to 5 on 2, 6 to 7 on 0 (DAY 1).
        CallSigns c = Due.with(Due.row(0, 1, 0, 1, 2, 0), Due.row(0, 1, 1, 1, 7, 0), Due.row(0, 1, 2, 1, 7, 0),
                Due.row(1, 0, 3, 1, 7, 0), Due.row(0, 2, 3, 1, 3, 0), Due.row(4, 5, 3, 1, 2, 0), Due.row(6, 7, 24, 1, 0, 0));
        Due.due("34: 2 reaches as many as 7", c.waves(1, 0, 0, 0), 4);
        Due.due("34: two links", c.waves(1, 0, 0, 1), 2);
        Due.due("34: of four", c.waves(1, 0, 0, 2), 4);
        Due.due("34: 2 and 3 are less than 2 and 7", c.waves(2, 0, 0, 0), 12);
        Due.due("34: three links", c.waves(2, 0, 0, 1), 3);
        Due.due("34: three waves", c.waves(3, 0, 0, 0), 4 | 8 | 128);
        Due.due("34: all links", c.waves(3, 0, 0, 1), 4);
        Due.due("34: one more for nothing, the least", c.waves(4, 0, 0, 0), 1 | 4 | 8 | 128);
        Due.due("34: both days", c.waves(4, 0, 1, 1), 5);
        Due.due("34: of both days", c.waves(4, 0, 1, 2), 5);
        Due.due("34: one day", c.waves(1, 1, 1, 0), 1);
        Due.due("34: a day without", c.waves(2, 2, 19, 0), 3);
        Due.due("34: a day without", c.waves(2, 2, 19, 1), 0);
        Due.due("34: all waves", c.waves(8, 0, 19, 0), 255);
        Due.due("34: d above e", c.waves(1, 1, 0, 0), Due.BAD);
    }

    private static void fill(CallSigns c, int pause) {
        c.call(0, 1, pause, 1, 0, pause);
        c.bearing(0, 0, 0, 1, 0, 1);
        c.listen(0, pause, pause);
        c.event(pause);
    }

    private static void counts(String when, CallSigns c, int each, int kept) {
        for (int what : new int[] {0, 3, 4, 5}) Due.due(when + ": count(" + what + ")", c.count(what), each);
        Due.due(when + ": kept", c.count(6), kept);
    }

    private static void keepAndBack() {
        CallSigns c = new CallSigns();
        fill(c, 5);
        Due.due("35: kept", c.keep(), 1);
        counts("35", c, 1, 1);
        fill(c, 50);
        fill(c, 70);
        counts("35", c, 3, 1);
        Due.due("36: back", c.back(), 0);
        counts("36", c, 1, 0);
        Due.due("36: the later calls are gone", c.hand(1), Due.BAD);
        Due.due("36: the earlier one is not", c.hand(0), 0);
        Due.due("36: hands", c.hands(), 1);
        Due.due("36: nothing kept", c.back(), Due.NO);
        counts("36", c, 1, 0);
        fill(c, 90);
        Due.due("36: another one now", c.odds(0, 1, 1), 1);
        Due.due("36: with its own pause", c.hands(), 2);
    }

    private static void keptTwice() {
        CallSigns c = new CallSigns();
        c.keep();
        fill(c, 1);
        Due.due("35: two", c.keep(), 2);
        fill(c, 2);
        Due.due("35: two at most", c.keep(), Due.FULL);
        counts("35", c, 2, 2);
        Due.due("36: as kept last", c.back(), 1);
        counts("36", c, 1, 1);
        fill(c, 3);
        fill(c, 4);
        Due.due("35: once more", c.keep(), 2);
        Due.due("36: nothing came between", c.back(), 1);
        counts("36", c, 3, 1);
        Due.due("36: to the first", c.back(), 0);
        counts("36", c, 0, 0);
        Due.due("36: no more", c.back(), Due.NO);
        for (int i = 0; i < 60; i++) c.call(0, 1, 0, 1, 0, 0);
        Due.due("35: when full of calls", c.keep(), 1);
        Due.due("36: still full", c.back(), 0);
        Due.due("2: still full", c.call(0, 1, 0, 1, 0, 0), Due.FULL);
    }

    /** A CALL that back took away must leave nothing behind. */
    private static void goneCalls() {
        CallSigns c = Due.with(Due.row(1, 0, 11, 1, 0, 0));
        c.listen(0, 0, 479);
        c.keep();
        Due.add(c, Due.row(0, 1, 10, 1, 0, 50));
        Due.due("21: answered", c.sign(0, 1, 0, 0), 2);
        Due.due("23: answering", c.lacks(1, 0, 0), 1);
        c.back();
        Due.due("21: gone", c.sign(0, 1, 0, 0), 0);
        Due.due("23: answering nobody", c.lacks(1, 0, 0), 3);
        c.keep();
        Due.add(c, Due.row(1, 0, 50, 1, 0, 0));
        Due.due("31: called", c.silent(1, 60, 20), 0);
        c.back();
        Due.due("31: silent", c.silent(1, 60, 20), 1);
        c.keep();
        Due.add(c, Due.row(1, 0, 300, 1, 7, 0));
        Due.due("31: on a wave that was not listened to", c.silent(1, 60, 20), 0);
        c.back();
        Due.due("31: no such wave", c.silent(1, 60, 20), 1);
    }

    private static void count() {
        CallSigns c = new CallSigns();
        for (int i = 0; i < 3; i++) c.call(0, 1, 0, 1, 0, 0);
        Due.take(c, "p1,2;k1,1;");
        Due.write(c, "k1");
        for (int i = 0; i < 4; i++) c.bearing(0, 0, 0, 1, 0, 1);
        for (int i = 0; i < 5; i++) c.listen(0, 0, 0);
        for (int i = 0; i < 6; i++) c.event(0);
        c.keep();
        int[] due = {3, 12, 2, 4, 5, 6, 1};
        for (int what = 0; what < 7; what++) Due.due("37: count(" + what + ")", c.count(what), due[what]);
    }
}
