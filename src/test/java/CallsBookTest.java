/** Promises 1 to 8: a new object, call, write, wipe, fault, take, name, post. */
public final class CallsBookTest {
    private CallsBookTest() { }

    public static void main(String[] args) {
        newObject();
        calls();
        callLimits();
        writing();
        textLimit();
        wiping();
        faults();
        taking();
        goingOn();
        changingPlaces();
        Due.end("CallsBookTest");
    }

    private static void newObject() {
        CallSigns c = new CallSigns();
        for (int what = 0; what <= 6; what++) Due.due("1: count(" + what + ")", c.count(what), 0);
        Due.due("1: fault", c.fault(), Due.NONE);
        for (int n = 0; n < 12; n++) {
            Due.due("1: name", c.name(n, 19), Due.NONE);
            Due.due("1: post", c.post(n, 0), Due.NONE);
        }
        Due.due("1: T", c.apart(3), 3);
        Due.due("1: H", c.within(2), 2);
        for (int hearer = 0; hearer < 4; hearer++) Due.due("1: hearer", c.hearer(hearer, 0, 0), 0);
        Due.due("1: back", c.back(), Due.NO);
        CallSigns other = new CallSigns();
        c.call(0, 1, 0, 1, 0, 0);
        Due.due("1: another object", other.count(0), 0);
    }

    private static void calls() {
        CallSigns c = new CallSigns();
        Due.due("2: first", c.call(0, 11, 0, 1, 0, 0), 0);
        Due.due("2: second", c.call(11, 0, 479, 99, 7, 99), 1);
        Due.due("2: the same once more", c.call(11, 0, 479, 99, 7, 99), 2);
        Due.due("2: to itself", c.call(3, 3, 0, 1, 0, 0), Due.BAD);
        Due.due("2: what is BAD is not counted", c.count(0), 3);
    }

    private static void callLimits() {
        CallSigns c = new CallSigns();
        for (int i = 0; i < 60; i++) Due.due("2: number", c.call(i % 12, (i + 1) % 12, i, 1, 0, i), i);
        Due.due("2: 60 are all", c.call(0, 1, 0, 1, 0, 0), Due.FULL);
        Due.due("2: BAD ahead of FULL", c.call(0, 0, 0, 1, 0, 0), Due.BAD);
        Due.due("2: still 60", c.count(0), 60);
        Due.due("2: the last one stands", c.hand(59), 0);
    }

    private static void writing() {
        CallSigns c = new CallSigns();
        // The highest of the n bytes comes first; what v has above them is not written.
        Due.due("3: three bytes", c.write(3, 0x7FAABB_70312CL), 3);
        Due.due("3: two more", c.write(2, -1L << 16 | 0x323B), 5);
        Due.due("3: that is p1,2;", c.take(), 1);
        Due.due("3: so it says", c.name(1, 0), 2);
        c.wipe();
        Due.due("3: eight", c.write(8, 0x70_30_2C_30_3B_6B_31_2CL), 8);
        Due.due("3: p0,0;k1,", c.fault(), 5);
        Due.due("3: and two", c.write(2, 0x31_3BL), 10);
        Due.due("3: p0,0;k1,1;", c.fault(), Due.NONE);
        c.wipe();
        Due.due("3: a negative one", c.write(8, -1L), 8);
        Due.due("3: is no item", c.fault(), 0);
    }

    private static void textLimit() {
        CallSigns c = new CallSigns();
        for (int i = 1; i <= 24; i++) Due.due("3: length", c.write(8, 0L), 8 * i);
        Due.due("3: 199", c.write(7, 0L), 199);
        Due.due("3: two are too many", c.write(2, 0L), Due.FULL);
        Due.due("3: nothing was written", c.count(1), 199);
        Due.due("3: one more fits", c.write(1, 0L), 200);
        Due.due("3: full", c.write(1, 0L), Due.FULL);
        Due.due("3: BAD ahead of FULL", c.write(9, 0L), Due.BAD);
        Due.due("3: 200", c.count(1), 200);
        StringBuilder forty = new StringBuilder();
        for (int i = 0; i < 40; i++) forty.append("k1,1;");
        Due.due("6: 40 items are 200 bytes", Due.take(c, forty.toString()), 40);
        Due.due("6: of them one goes on", Due.take(c, "p0,0;" + forty.substring(5)), 40);
        Due.due("7: by 1", c.name(0, 19), 7);
        c.wipe();
        Due.write(c, forty.substring(0, 195) + "k1,1,");
        Due.due("5: in the last item", c.fault(), 195);
        for (String end : new String[] {"k1,11", "k1,1,", "k1111", "kkkkk", "k1,,,", ",1,1;"}) {
            c.wipe();
            Due.write(c, forty.substring(0, 195) + end);
            Due.due("5: at the very end " + end, c.fault(), 195);
        }
        c.wipe();
        Due.write(c, forty.substring(0, 195) + "k1,1");
        Due.due("5: what was written before does not count", c.fault(), 195);
        c.write(1, ';');
        Due.due("5: whole", c.fault(), Due.NONE);
    }

    private static void wiping() {
        CallSigns c = new CallSigns();
        Due.due("4: empty", c.wipe(), 0);
        Due.due("4: taken", Due.take(c, "p3,4;"), 1);
        Due.due("4: how long", c.wipe(), 5);
        Due.due("4: now empty", c.count(1), 0);
        Due.due("4: once more", c.wipe(), 0);
        Due.due("4: TAKEN stays", c.name(3, 0), 4);
        Due.due("4: items stay", c.count(2), 1);
        Due.due("4: no fault", c.fault(), Due.NONE);
        Due.write(c, "p3,4");
        Due.due("4: the old ; is gone", c.fault(), 0);
    }

    private static void faults() {
        fault("", Due.NONE);
        fault("p0,0;p11,11;k0,1;k11,19;x0,11,1;x11,0,19;", Due.NONE);
        fault("p000,011;k07,003;x00,1,019;", Due.NONE);
        fault("x0,1,1;x0,1,1;k1,1;k1,1;", Due.NONE);
        for (String one : new String[] {"p12,0;", "p0,12;", "p999,0;", "k12,1;", "k0,0;", "k0,20;", "k0,999;",
            "x12,0,1;", "x0,12,1;", "x4,4,1;", "x0,1,0;", "x0,1,20;", "p0000,1;", "p0,0001;", "k1,0001;",
            "x1,2,0003;", "p,1;", "p1,;", "p1;", "p;", "p", "p1", "p1,", "p1,2", "p1,2,", "p1,2,3;", "k1,2,3;",
            "x1,2;", "x1,2,3", "x1,2,3,4;", "k", "x", "q1,2;", "P1,2;", "K1,2;", "X1,2,3;", ";", ",", "1", " ",
            "p-1,2;", "p+1,2;", "p 1,2;", "p1 ,2;", "p1.2;", "p1,2:", "\u0000", "\u00ff", "p\u00b1,2;", "p1:2;",
            "p/,1;", "p:,1;", "q1;", "q;", "1;"}) {
            fault(one, 0);
            fault("p7,8;" + one, 5);
            fault("k1,1;x1,2,13;" + one + "q", 13);
        }
        fault("p0,0;p0,1;", 5);
        fault("p0,0;p1,0;", 5);
        fault("p0,0;k1,1;p1,1;p2,001;p0,0;", 15);
        fault("p0,1;;", 5);
        fault("p1,2;k1,1;x0,1,5", 10);
        fault("p1,2; k1,1;", 5);
        fault("p1,2;k0,0;p1,2;", 5);
    }

    private static void fault(String text, int place) {
        CallSigns c = new CallSigns();
        Due.write(c, text);
        Due.due("5: fault of " + text, c.fault(), place);
        Due.due("5: asking changes nothing: " + text, c.count(1), text.length());
        if (place != Due.NONE) Due.due("6: take of " + text, c.take(), Due.NO);
    }

    private static void taking() {
        CallSigns c = new CallSigns();
        Due.due("6: an empty one", c.take(), 0);
        Due.due("6: four items", Due.take(c, "p2,3;p4,5;k1,1;x1,2,3;"), 4);
        Due.due("37: items", c.count(2), 4);
        Due.due("6: the text stays", c.count(1), 22);
        Due.due("6: a fault", Due.take(c, "p2,9;p2,8;"), Due.NO);
        Due.due("6: the earlier one holds", c.name(2, 0), 3);
        Due.due("6: with its items", c.count(2), 4);
        Due.due("6: another one", Due.take(c, "p5,3;"), 1);
        Due.due("6: the earlier is gone", c.name(2, 0), Due.NONE);
        Due.due("6: its post too", c.post(5, 0), Due.NONE);
        Due.due("6: its going on too", c.name(5, 19), 3);
        Due.due("6: the new one", c.post(3, 7), 5);
        Due.write(c, "p6,4;");
        Due.due("6: not yet taken", c.name(6, 0), Due.NONE);
        Due.due("6: now", c.take(), 2);
        Due.due("6: told", c.name(6, 0), 4);
        c.wipe();
        Due.due("6: empty again", c.take(), 0);
        Due.due("6: none told", c.name(6, 0), Due.NONE);
    }

    private static void goingOn() {
        CallSigns c = new CallSigns();
        Due.due("7: taken", Due.take(c, "p0,10;p5,3;k3,2;x1,4,2;k11,5;k1,4;"), 6);
        // From DAY 4 on the ITEM k1,4 is the last one, so k11,5 never holds.
        int[] post0 = {10, 10, 4, 7, 8, 9, 10, 11, 0, 1, 2, 3, 4, 5, 6, 7, 8, 9, 10, 11};
        int[] post5 = {3, 3, 6, 9, 10, 11, 0, 1, 2, 3, 4, 5, 6, 7, 8, 9, 10, 11, 0, 1};
        for (int day = 0; day < 20; day++) {
            Due.due("7: POST 0 on " + day, c.name(0, day), post0[day]);
            Due.due("7: POST 5 on " + day, c.name(5, day), post5[day]);
            Due.due("7: POST 1 on " + day, c.name(1, day), Due.NONE);
            Due.due("8: POST 0 by its name on " + day, c.post(post0[day], day), 0);
            Due.due("8: POST 5 by its name on " + day, c.post(post5[day], day), 5);
        }
        Due.due("8: untold", c.post(0, 0), Due.NONE);
        Due.take(c, "k5,1;p1,7;");
        Due.due("7: 7 and 5 is 0", c.name(1, 1), 0);
        Due.due("7: k ahead of p", c.name(1, 2), 5);
        Due.take(c, "p1,7;k5,3;k0,5;");
        Due.due("7: stopped", c.name(1, 19), 5);
        Due.due("7: two midnights", c.name(1, 4), 5);
        Due.due("7: one midnight", c.name(1, 3), 0);
        Due.due("7: none yet", c.name(1, 2), 7);
        Due.take(c, "p1,7;k5,19;");
        Due.due("7: the last midnight", c.name(1, 19), 0);
        Due.due("7: ahead of it", c.name(1, 18), 7);
    }

    private static void changingPlaces() {
        CallSigns c = new CallSigns();
        Due.take(c, "p0,0;p1,1;x0,1,1;x1,2,1;");
        Due.due("7: 0 to 1 to 2", c.name(0, 1), 2);
        Due.due("7: 1 to 0", c.name(1, 1), 0);
        Due.due("8: none is 1 now", c.post(1, 1), Due.NONE);
        Due.due("7: it stays so", c.name(0, 2), 2);
        Due.take(c, "x0,1,1;p0,0;");
        Due.due("7: x ahead of p", c.name(0, 1), 1);
        Due.take(c, "p0,0;p1,1;x1,2,1;x0,1,1;");
        Due.due("7: the other way round", c.name(0, 1), 1);
        Due.due("7: 1 to 2", c.name(1, 1), 2);
        Due.take(c, "p0,0;x0,5,3;k4,3;");
        Due.due("7: behind the going on", c.name(0, 3), 4);
        Due.take(c, "p0,0;x4,5,3;k4,3;");
        Due.due("7: behind the going on it is changed", c.name(0, 3), 5);
        Due.due("7: and goes on from there", c.name(0, 4), 9);
        Due.take(c, "p0,0;x0,5,3;");
        Due.due("7: ahead of the day", c.name(0, 2), 0);
        Due.due("7: on the day", c.name(0, 3), 5);
        Due.due("8: on the day", c.post(0, 3), Due.NONE);
    }
}
