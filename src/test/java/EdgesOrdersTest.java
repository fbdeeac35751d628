/** Promises 19 to 24 at their edges; each test begins with the words that it holds the class to. */
public final class EdgesOrdersTest {
    private EdgesOrdersTest() { }

    public static void main(String[] args) {
        within();
        hoursLater();
        sameHour();
        passedOn();
        fates();
        signs();
        signsOfTheseDays();
        twoToSix();
        rootAndRings();
        lowerOneAbove();
        linkSure();
        belowNone();
        treeSum();
        noCallsOfIt();
        noneAnswered();
        answersNone();
        asManyMinutes();
        oneHand();
        forShow();
        Due.end("EdgesOrdersTest", 19, 24);
    }

    private static void within() {
        Due.says(19, "(H 1 to 23; 2 at first");
        CallSigns c = new CallSigns();
        Due.due("at first", c.within(1), 2);
        for (int h = 2; h <= 23; h++) Due.due("to " + h, c.within(h), h - 1);
        Due.due("24", c.within(24), Due.BAD);
        Due.due("0", c.within(0), Due.BAD);
        Due.due("still 23", c.within(23), 23);
    }

    /** What becomes of a CALL from 0 to 1 in HOUR 100 with 5 minutes, if another one comes so much later. */
    private static int fateWith(int h, int[] other) {
        CallSigns c = Due.with(Due.at(0, 1, 100, 5), other);
        if (h != 2) c.within(h);
        return c.fate(0);
    }

    private static void hoursLater() {
        Due.says(20, "ANSWERED, if b calls a no more than H HOURS later");
        for (int h = 1; h <= 23; h++) {
            for (int later = -25; later <= 25; later++) {
                int due = later >= 0 && later <= h ? 1 : 0;
                Due.due("H " + h + ", " + later + " later", fateWith(h, Due.at(1, 0, 100 + later, 7)), due);
                due = later > 0 && later <= h ? 1 : 0;
                CallSigns c = Due.with(Due.at(1, 0, 100 + later, 7), Due.at(0, 1, 100, 5));
                c.within(h);
                Due.due("H " + h + ", with a lower number " + later + " later", c.fate(1), due);
            }
        }
        Due.due("from the first hour", Due.with(Due.at(0, 1, 0, 5), Due.at(1, 0, 2, 5)).fate(0), 1);
        Due.due("to the last hour", Due.with(Due.at(0, 1, 477, 5), Due.at(1, 0, 479, 5)).fate(0), 1);
        Due.due("in the last hour", Due.with(Due.at(0, 1, 479, 5)).fate(0), 0);
        Due.due("by another one", fateWith(2, Due.at(2, 0, 101, 5)), 0);
        Due.due("by itself", fateWith(2, Due.at(0, 1, 101, 5)), 0);
    }

    private static void sameHour() {
        Due.says(20, "in the same HOUR: with a higher number");
        CallSigns c = Due.with(Due.at(1, 0, 50, 3), Due.at(0, 1, 50, 4), Due.at(1, 0, 50, 5), Due.at(1, 2, 50, 4));
        Due.due("CALL 1 answers CALL 0", c.fate(0), 1);
        Due.due("CALL 2 answers CALL 1, CALL 3 passes it on", c.fate(1), 3);
        Due.due("CALL 1 has a lower number than CALL 2", c.fate(2), 0);
        CallSigns d = Due.with(Due.at(1, 2, 50, 4), Due.at(0, 1, 50, 4));
        Due.due("passed on with a lower number", d.fate(1), 0);
    }

    private static void passedOn() {
        Due.says(20, "PASSED ON, if b calls another one than a so, with as many minutes");
        for (int h = 1; h <= 23; h++) {
            for (int later = -25; later <= 25; later++) {
                int due = later >= 0 && later <= h ? 2 : 0;
                Due.due("H " + h + ", " + later + " later", fateWith(h, Due.at(1, 2, 100 + later, 5)), due);
            }
        }
        for (int minutes = 1; minutes <= 99; minutes++) {
            Due.due(minutes + " for 5", fateWith(2, Due.at(1, 2, 101, minutes)), minutes == 5 ? 2 : 0);
            Due.due(minutes + " back for 5", fateWith(2, Due.at(1, 0, 101, minutes)), 1);
        }
        for (int to = 0; to < 12; to++) {
            if (to != 1) Due.due("to " + to, fateWith(2, Due.at(1, to, 101, 5)), to == 0 ? 1 : 2);
        }
        Due.due("by another one", fateWith(2, Due.at(2, 3, 101, 5)), 0);
        Due.due("by itself", fateWith(2, Due.at(0, 2, 101, 5)), 0);
    }

    private static void fates() {
        Due.says(20, "1 ANSWERED, 2 PASSED ON (both: 3). BAD.");
        CallSigns c = Due.with(Due.at(0, 1, 10, 5), Due.at(1, 0, 11, 6), Due.at(1, 2, 12, 5));
        Due.due("both", c.fate(0), 3);
        Due.due("both, the other way round", Due.with(Due.at(0, 1, 10, 5), Due.at(1, 2, 10, 5), Due.at(1, 0, 11, 6)).fate(0), 3);
        Due.due("neither", c.fate(2), 0);
        Due.due("no such one", c.fate(3), Due.BAD);
        Due.due("no such one", c.fate(-1), Due.BAD);
        Due.due("none at all", new CallSigns().fate(0), Due.BAD);
        CallSigns full = new CallSigns();
        for (int i = 0; i < 60; i++) Due.add(full, Due.at(i % 2, 1 - i % 2, 8 * i, 1));
        full.within(8);
        for (int i = 0; i < 60; i++) Due.due("CALL " + i, full.fate(i), i < 59 ? 1 : 0);
        Due.due("CALL 60", full.fate(60), Due.BAD);
    }

    private static void signs() {
        Due.says(21, "of CALLS from a to b on these DAYS 2 for each ANSWERED, 3 for each PASSED ON (both: 5)");
        CallSigns c = Due.with(Due.at(0, 1, 10, 5));
        Due.due("neither", c.sign(0, 1, 0, 0), 0);
        Due.add(c, Due.at(1, 0, 11, 6));
        Due.due("ANSWERED", c.sign(0, 1, 0, 0), 2);
        Due.add(c, Due.at(1, 0, 12, 6));
        Due.due("ANSWERED twice is once", c.sign(0, 1, 0, 0), 2);
        Due.add(c, Due.at(1, 2, 12, 5));
        Due.due("both", c.sign(0, 1, 0, 0), 5);
        Due.add(c, Due.at(1, 3, 12, 5));
        Due.due("PASSED ON twice is once", c.sign(0, 1, 0, 0), 5);
        Due.add(c, Due.at(0, 1, 12, 9));
        Due.due("one more that is neither", c.sign(0, 1, 0, 0), 5);
        Due.due("CALLS 1 and 2 are ANSWERED by the last one", c.sign(1, 0, 0, 0), 4);
        Due.due("PASSED ON alone", Due.with(Due.at(0, 1, 10, 5), Due.at(1, 2, 10, 5)).sign(0, 1, 0, 0), 3);
        // 20 CALLS in one HOUR, each both ANSWERED and PASSED ON by what comes behind all of them.
        CallSigns many = new CallSigns();
        for (int i = 0; i < 20; i++) Due.add(many, Due.at(11, 0, 479, 7));
        Due.add(many, Due.at(0, 11, 479, 1), Due.at(0, 5, 479, 7));
        Due.due("20 times 5", many.sign(11, 0, 19, 19), 100);
        Due.says(21, "BAD (a is b, too)");
        for (int n = 0; n < 12; n++) Due.due("of " + n + " and " + n, many.sign(n, n, 0, 19), Due.BAD);
    }

    /** CALLS in the last HOUR of DAY 4, the first and the last of DAYS 5 and 6, the first of DAY 7, all ANSWERED. */
    private static CallSigns aroundDays5And6() {
        CallSigns c = new CallSigns();
        for (int hour : new int[] {119, 120, 143, 144, 167, 168}) Due.add(c, Due.at(3, 4, hour, 9), Due.at(4, 3, hour, 8));
        c.within(1);
        return c;
    }

    private static void signsOfTheseDays() {
        Due.says(21, "SIGN of a above b on DAYS d to e: of CALLS from a to b on these DAYS");
        CallSigns c = aroundDays5And6();
        int[][] due = {{5, 5, 4}, {6, 6, 4}, {5, 6, 8}, {4, 6, 10}, {5, 7, 10}, {0, 19, 12}, {4, 4, 2}, {7, 7, 2}, {0, 4, 2},
            {7, 19, 2}, {0, 3, 0}, {8, 19, 0}};
        for (int[] days : due) Due.due(days[0] + " to " + days[1], c.sign(3, 4, days[0], days[1]), days[2]);
        CallSigns over = Due.with(Due.at(0, 1, 23, 5), Due.at(1, 0, 24, 5));
        Due.due("ANSWERED on the next DAY", over.sign(0, 1, 0, 0), 2);
        Due.due("the answer's DAY alone", over.sign(0, 1, 1, 1), 0);
        Due.due("d above e", over.sign(0, 1, 1, 0), Due.BAD);
    }

    private static void twoToSix() {
        Due.says(22, "over all NAMES that call or are called on them (2 to 6; else NO)");
        for (int what = 0; what <= 2; what++) {
            Due.due("none", new CallSigns().tree(0, 0, 19, what), Due.NO);
            for (int names = 2; names <= 12; names++) {
                CallSigns c = new CallSigns();
                for (int name = 1; name < names; name++) {
                    Due.add(c, name % 2 == 0 ? Due.at(0, name, 24, 1) : Due.at(name, 0, 47, 1));
                }
                int due = names > 6 ? Due.NO : new int[] {1, 0, 0}[what];
                Due.due(names + " names, what " + what, c.tree(0, 1, 1, what), due);
                Due.due("none on the days ahead", c.tree(0, 0, 0, what), Due.NO);
                Due.due("none on the days behind", c.tree(0, 2, 19, what), Due.NO);
            }
        }
        CallSigns c = Due.with(Due.at(0, 1, 23, 1), Due.at(2, 3, 24, 1), Due.at(4, 5, 47, 1), Due.at(6, 7, 48, 1));
        Due.due("four on DAY 1", c.tree(5, 1, 1, 0), Due.NONE);
        Due.due("six on DAYS 0 and 1", c.tree(0, 0, 1, 0), 1);
        Due.due("six on DAYS 1 and 2", c.tree(2, 1, 2, 0), 3);
        Due.due("eight on DAYS 0 to 2", c.tree(2, 0, 2, 0), Due.NO);
    }

    private static void rootAndRings() {
        Due.says(22, "one is its ROOT, each other one is below another one, none below itself by others; of the greatest sum of SIGNS of links");
        // Each above the next one, and the last above the first: all of six but one link hold.
        for (int names = 2; names <= 6; names++) {
            CallSigns c = new CallSigns();
            for (int i = 0; i < names; i++) {
                int next = (i + 1) % names;
                Due.add(c, Due.at(i, next, 10 * i, 1), Due.at(next, i, 10 * i + 1, 2));
                // Another one that is ANSWERED for all but the last, so that its link gives way.
                if (i < names - 1) Due.add(c, Due.at(i, next, 10 * i + 5, 1), Due.at(next, i, 10 * i + 6, 2));
            }
            c.within(1);
            Due.due(names + ": 0 is the ROOT", c.tree(0, 0, 19, 0), Due.NONE);
            for (int i = 1; i < names; i++) {
                Due.due(names + ": above " + i, c.tree(i, 0, 19, 0), i - 1);
                Due.due(names + ": SURE above " + i, c.tree(i, 0, 19, 1), 1);
            }
            Due.due(names + ": sum", c.tree(0, 0, 19, 2), 4 * (names - 1));
        }
    }

    private static void lowerOneAbove() {
        Due.says(22, "of several that in which the lowest NAME has the lower one above it (the ROOT's counts as 12), then the next");
        CallSigns c = Due.with(Due.at(11, 10, 0, 1));
        Due.due("11 above 10 rather than 10 as the ROOT", c.tree(10, 0, 0, 0), 11);
        Due.due("so 11 is the ROOT", c.tree(11, 0, 0, 0), Due.NONE);
        // Without SIGNS all trees are as good: each is below the lowest that makes no ring.
        CallSigns six = new CallSigns();
        for (int name : new int[] {11, 9, 7, 5, 3}) Due.add(six, Due.at(name, 1, name, 1));
        int[] names = {1, 3, 5, 7, 9, 11};
        for (int i = 0; i < 6; i++) Due.due("above " + names[i], six.tree(names[i], 0, 0, 0), i < 5 ? names[i + 1] : Due.NONE);
        // 4 may be below 2 or 3 (SIGN 2 each), and 2 below 3 or 3 below 2: 2 below 3, 3 the ROOT, 4 below 2.
        CallSigns d = Due.with(Due.at(2, 4, 0, 1), Due.at(4, 2, 1, 2), Due.at(3, 4, 10, 1), Due.at(4, 3, 11, 2));
        Due.due("2 below 3", d.tree(2, 0, 0, 0), 3);
        Due.due("3 below 4 would cost what 4 brings below it", d.tree(3, 0, 0, 0), Due.NONE);
        Due.due("4 below the lower one", d.tree(4, 0, 0, 0), 2);
        Due.due("2 in all", d.tree(4, 0, 0, 2), 2);
    }

    private static void linkSure() {
        Due.says(22, "LINK SURE: it is in all trees of that sum.");
        CallSigns c = Due.with(Due.at(0, 1, 0, 1), Due.at(1, 0, 1, 2));
        Due.due("one tree has 2, the other none", c.tree(1, 0, 0, 1), 1);
        Due.add(c, Due.at(1, 0, 10, 1), Due.at(0, 1, 11, 2));
        Due.due("both have 2: 0 is told below 1", c.tree(0, 0, 0, 0), 1);
        Due.due("but not SURE", c.tree(0, 0, 0, 1), 0);
        // 5 is below 0 by SIGN 2; 9 without SIGNS is anywhere.
        CallSigns d = Due.with(Due.at(0, 5, 0, 1), Due.at(5, 0, 1, 2), Due.at(5, 9, 20, 1));
        Due.due("5 below 0", d.tree(5, 0, 0, 0), 0);
        Due.due("SURE", d.tree(5, 0, 0, 1), 1);
        Due.due("0 below 9", d.tree(0, 0, 0, 0), 9);
        Due.due("not SURE", d.tree(0, 0, 0, 1), 0);
        // 9 has 5 or 0 above it by SIGN 2 each.
        CallSigns e = Due.with(Due.at(0, 5, 0, 1), Due.at(5, 0, 1, 2), Due.at(5, 9, 10, 1), Due.at(9, 5, 11, 2),
                Due.at(0, 9, 20, 1), Due.at(9, 0, 21, 2));
        Due.due("9 below 0", e.tree(9, 0, 0, 0), 0);
        Due.due("or below 5", e.tree(9, 0, 0, 1), 0);
        Due.due("5 SURE below 0", e.tree(5, 0, 0, 1), 1);
        // The lowest is SURE below 3, though 7 is anywhere.
        CallSigns low = Due.with(Due.at(3, 0, 0, 1), Due.at(0, 3, 1, 2), Due.at(0, 7, 20, 1));
        Due.due("0 below 3", low.tree(0, 0, 0, 0), 3);
        Due.due("SURE", low.tree(0, 0, 0, 1), 1);
        Due.due("3 below 7", low.tree(3, 0, 0, 0), 7);
        Due.due("not SURE", low.tree(3, 0, 0, 1), 0);
    }

    private static void belowNone() {
        Due.says(22, "NONE: ROOT, not in it");
        CallSigns c = Due.with(Due.at(0, 1, 0, 1), Due.at(1, 0, 1, 2), Due.at(5, 6, 30, 1));
        for (int what = 0; what <= 1; what++) {
            Due.due("the ROOT", c.tree(0, 0, 0, what), Due.NONE);
            for (int name = 2; name < 12; name++) Due.due(name + " is not in it", c.tree(name, 0, 0, what), Due.NONE);
            Due.due("not on these DAYS", c.tree(1, 1, 1, what), Due.NONE);
        }
        Due.due("1 is below 0", c.tree(1, 0, 0, 0), 0);
        Due.due("1 is SURE", c.tree(1, 0, 0, 1), 1);
    }

    private static void treeSum() {
        Due.says(22, "the sum (2; the NAME is not looked at). NO; BAD.");
        CallSigns c = Due.with(Due.at(0, 1, 0, 1), Due.at(1, 0, 1, 2));
        for (int name : new int[] {0, 1, 2, 11, 12, -1, Integer.MIN_VALUE, Integer.MAX_VALUE}) {
            Due.due("with NAME " + name, c.tree(name, 0, 0, 2), 2);
            Due.due("with NAME " + name + " on a day without calls", c.tree(name, 1, 19, 2), Due.NO);
            Due.due("with NAME " + name + " and d above e", c.tree(name, 1, 0, 2), Due.BAD);
        }
        Due.due("NAME 12 is looked at for what 0", c.tree(12, 0, 0, 0), Due.BAD);
        Due.due("NAME 12 is looked at for what 1", c.tree(12, 0, 0, 1), Due.BAD);
        Due.due("no SIGNS are 0", Due.with(Due.at(0, 1, 0, 1)).tree(0, 0, 0, 2), 0);
        // 5 above each of five others, each CALL both ANSWERED and PASSED ON within the HOUR.
        CallSigns most = new CallSigns();
        for (int name = 6; name <= 10; name++) {
            Due.add(most, Due.at(5, name, name, 9), Due.at(name, 5, name, 1), Due.at(name, name == 6 ? 7 : 6, name, 9));
        }
        most.within(1);
        Due.due("5 times 5", most.tree(5, 0, 0, 2), 25);
    }

    private static int[] by(int from, int to, int hour, int minutes, int pause) {
        return Due.row(from, to, hour, minutes, 0, pause);
    }

    private static void noCallsOfIt() {
        Due.says(23, "(No CALLS of it then: 0.)");
        CallSigns c = Due.with(by(3, 4, 48, 5, 10), by(3, 4, 71, 5, 10));
        Due.due("none at all", new CallSigns().lacks(0, 0, 19), 0);
        Due.due("called alone", c.lacks(4, 0, 19), 0);
        Due.due("on the days ahead", c.lacks(3, 0, 1), 0);
        Due.due("on the days behind", c.lacks(3, 3, 19), 0);
        Due.due("on its day", c.lacks(3, 2, 2), 7);
        Due.due("d above e", c.lacks(3, 3, 2), Due.BAD);
    }

    private static void noneAnswered() {
        Due.says(23, "1 none of its CALLS is ANSWERED");
        for (int later = 0; later <= 3; later++) {
            CallSigns c = Due.with(by(0, 1, 22, 5, 10), by(0, 2, 22, 6, 10), by(2, 0, 22 + later, 6, 50));
            Due.due("one of two, " + later + " later, with H 2", c.lacks(0, 0, 0) & 1, later <= 2 ? 0 : 1);
        }
        CallSigns c = Due.with(by(0, 1, 10, 5, 10), by(1, 2, 11, 5, 50), by(0, 3, 40, 5, 10), by(3, 0, 41, 5, 90));
        Due.due("PASSED ON is not ANSWERED", c.lacks(0, 0, 0) & 1, 1);
        Due.due("ANSWERED on DAY 1", c.lacks(0, 0, 1) & 1, 0);
    }

    private static void answersNone() {
        Due.says(23, "2 by none of its CALLS another one (of any DAY) is ANSWERED");
        for (int later = 0; later <= 3; later++) {
            CallSigns c = Due.with(by(0, 1, 23, 5, 10), by(1, 0, 23 + later, 6, 50), by(1, 5, 47, 6, 50));
            int day = later == 0 ? 0 : 1;
            Due.due("of one " + later + " ahead, with H 2", c.lacks(1, day, day) & 2, later <= 2 ? 0 : 2);
            Due.due("the asking one", c.lacks(0, 0, 1) & 2, 2);
        }
        CallSigns c = Due.with(by(1, 0, 10, 6, 50), by(0, 1, 10, 5, 10));
        Due.due("in the same HOUR with a lower number", c.lacks(1, 0, 0) & 2, 2);
        Due.due("with a higher number", c.lacks(0, 0, 0) & 2, 0);
        CallSigns both = Due.with(by(0, 1, 10, 5, 10), by(1, 0, 11, 6, 50), by(0, 1, 12, 7, 90));
        Due.due("it answers and is ANSWERED: nothing is lacking", both.lacks(1, 0, 0), 0);
    }

    private static void asManyMinutes() {
        Due.says(23, "4 it has two CALLS at least, all with as many minutes");
        CallSigns c = Due.with(by(0, 1, 0, 99, 10));
        Due.due("one CALL", c.lacks(0, 0, 0) & 4, 0);
        Due.add(c, by(0, 1, 23, 99, 10));
        Due.due("two", c.lacks(0, 0, 0) & 4, 4);
        Due.add(c, by(0, 1, 24, 98, 10));
        Due.due("another length on the next day", c.lacks(0, 0, 0) & 4, 4);
        Due.due("the last of three is unlike", c.lacks(0, 0, 1) & 4, 0);
        Due.due("one on the next day", c.lacks(0, 1, 1) & 4, 0);
        Due.due("another's minutes do not count", Due.with(by(0, 1, 0, 5, 10), by(2, 1, 0, 5, 90)).lacks(0, 0, 0) & 4, 0);
    }

    private static void oneHand() {
        Due.says(23, "8 all its CALLS are by one HAND with which another NAME sends on one of these DAYS");
        CallSigns c = Due.with(by(0, 1, 48, 5, 10), by(0, 1, 71, 5, 13), by(7, 8, 47, 9, 16), by(7, 8, 72, 9, 16));
        Due.due("the other one on the days beside", c.lacks(0, 2, 2) & 8, 0);
        Due.due("the day ahead, too", c.lacks(0, 1, 2) & 8, 8);
        Due.due("the day behind, too", c.lacks(0, 2, 3) & 8, 8);
        Due.due("of the other one", c.lacks(7, 1, 2) & 8, 8);
        c.apart(2);
        Due.due("two HANDS", c.lacks(0, 1, 3) & 8, 0);
        c.apart(3);
        Due.add(c, by(0, 1, 60, 5, 20));
        Due.due("one of three by another HAND", c.lacks(0, 1, 3) & 8, 0);
        c.apart(4);
        Due.due("four apart it is the same", c.lacks(0, 1, 3) & 8, 8);
        Due.due("with CALL 0 by the other one", Due.with(by(2, 3, 0, 5, 10), by(0, 1, 9, 5, 10)).lacks(0, 0, 0) & 8, 8);
        Due.due("a HAND of its own", Due.with(by(0, 1, 0, 5, 10), by(0, 2, 1, 5, 10)).lacks(0, 0, 0) & 8, 0);
        Due.due("that sends, not that is called", Due.with(by(0, 1, 0, 5, 10), by(2, 0, 1, 5, 90)).lacks(0, 0, 0) & 8, 0);
    }

    private static void forShow() {
        Due.says(24, "FOR SHOW are those with 3 LACKS or more.");
        Due.due("nobody", new CallSigns().show(0, 19), 0);
        // Of 0 LACKS are 1 and 2; with two as long 1, 2, 4; of 11 1, 2, 8; all four of 5.
        CallSigns c = Due.with(by(0, 1, 0, 5, 0));
        Due.due("two LACKS", c.show(0, 0), 0);
        Due.add(c, by(0, 1, 23, 5, 0));
        Due.due("1, 2, 4", c.lacks(0, 0, 0), 7);
        Due.due("three LACKS", c.show(0, 0), 1);
        Due.add(c, by(11, 1, 5, 5, 50), by(5, 1, 6, 5, 50), by(5, 1, 7, 5, 50));
        Due.due("1, 2, 8", c.lacks(11, 0, 0), 11);
        Due.due("all four", c.lacks(5, 0, 0), 15);
        Due.due("0, 5 and 11", c.show(0, 0), 1 | 32 | 2048);
        Due.due("on the next day nobody", c.show(1, 19), 0);
        Due.due("d above e", c.show(1, 0), Due.BAD);
        // 1, 4, 8: it answers, but is not ANSWERED; 2, 4, 8: the other way round.
        CallSigns d = Due.with(by(1, 0, 0, 5, 40), by(0, 1, 1, 6, 40), by(0, 1, 10, 6, 40), by(1, 0, 20, 5, 40));
        Due.due("1, 4, 8", d.lacks(0, 0, 0), 13);
        Due.due("2, 4, 8", d.lacks(1, 0, 0), 14);
        Due.due("both", d.show(0, 0), 3);
        // All NAMES at once.
        CallSigns all = new CallSigns();
        for (int name = 0; name < 12; name++) Due.add(all, by(name, (name + 1) % 12, 3 * name, 5, 7), by(name, (name + 1) % 12, 3 * name, 5, 7));
        all.within(1);
        Due.due("twelve", all.show(0, 1), 4095);
    }
}
