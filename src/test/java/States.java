import java.util.ArrayList;
import java.util.List;

/** Objects as many tests want them, and all that one object has to tell, so that two can be compared. */
final class States {
    static final int CALLS_OF_SOME = 20;

    private States() { }

    interface Maker { CallSigns make(); }

    static CallSigns empty() {
        return new CallSigns();
    }

    /** Some of everything: DAYS 0 and 1 have a pairing and trees, on DAY 5 nine SEND, once it is KEPT. */
    static CallSigns some() {
        CallSigns c = Due.with(Due.row(0, 1, 8, 5, 0, 10), Due.row(1, 0, 9, 3, 0, 31), Due.row(1, 2, 9, 5, 1, 31),
                Due.row(2, 1, 10, 2, 1, 52), Due.row(0, 3, 12, 4, 2, 11), Due.row(3, 0, 13, 4, 2, 72));
        c.hearer(0, 1, 2);
        c.hearer(3, 15, 15);
        c.bearing(0, 4, 2, 1, 1, 3);
        c.listen(0, 0, 100);
        c.event(60);
        c.keep();
        Due.add(c, Due.row(3, 1, 33, 5, 0, 10), Due.row(1, 3, 34, 3, 0, 31), Due.row(4, 1, 35, 5, 1, 52),
                Due.row(1, 4, 36, 5, 2, 72));
        for (int name = 0; name < 9; name++) Due.add(c, Due.on(5, name, name, name % 8, 10 * name));
        Due.add(c, Due.on(6, 10, 3, 7, 90));
        c.bearing(1, 4, 3, 1, 0, 1);
        c.bearing(1, 4, 3, -1, 0, 1);
        c.bearing(3, 4, 4, -9, -4, 2);
        c.listen(1, 20, 479);
        c.listen(2, 0, 479);
        c.event(479);
        c.event(100);
        c.apart(4);
        c.within(5);
        Due.take(c, "p0,0;p1,1;p3,3;k3,1;");
        c.wipe();
        Due.write(c, "p5,5;k1,3;x8,9,4;");
        return c;
    }

    /** As much of everything as there can be. */
    static CallSigns full() {
        CallSigns c = new CallSigns();
        for (int i = 0; i < 59; i++) Due.add(c, callOfFull(i));
        c.keep();
        Due.add(c, Due.row(3, 4, 479, 99, 7, 99));
        c.apart(0);
        for (int i = 0; i < 40; i++) c.bearing(i % 4, i % 12, i % 20, i % 19 - 9, 9, 1 + i % 20);
        for (int i = 0; i < 20; i++) c.listen(i % 8, i * 20, 479);
        for (int i = 0; i < 10; i++) c.event(479 - i * 40);
        c.keep();
        Due.take(c, "p0,0;p11,11;k1,1;" + "k2,5;".repeat(35) + "x0,11,9;");
        c.wipe();
        Due.write(c, fullText());
        return c;
    }

    /** Each second CALL answers the one ahead of it. */
    private static int[] callOfFull(int i) {
        int pair = i / 2;
        int one = pair % 12;
        int other = (pair * 5 + 1) % 12;
        boolean back = i % 2 == 1;
        return Due.row(back ? other : one, back ? one : other, pair * 17 % 479 + i % 2, 1 + i % 3, i % 8, i * 7 % 100);
    }

    /** 40 ITEMS, 200 bytes, no FAULT. */
    static String fullText() {
        return "p0,0;" + "k1,1;".repeat(39);
    }

    /** All that an object has to tell, in some 310 calls, the last of which change it. */
    static List<String> told(CallSigns c) {
        List<String> all = new ArrayList<>();
        for (int what = 0; what <= 6; what++) all.add("count(" + what + ") " + c.count(what));
        tellHands(c, all);
        tellOrders(c, all);
        tellPlaces(c, all);
        all.add("fault() " + c.fault());
        tellNames(c, all, 0);
        tellNames(c, all, 19);
        for (int hearer = 0; hearer < 4; hearer++) all.add("hearer " + hearer + " was at " + c.hearer(hearer, 0, 0));
        all.add("T was " + c.apart(3));
        all.add("H was " + c.within(2));
        all.add("take() " + c.take());
        all.add("count(2) behind take " + c.count(2));
        tellNames(c, all, 18);
        for (int times = 1; times <= 3; times++) {
            all.add("back() " + c.back());
            for (int what : new int[] {0, 3, 4, 5}) all.add("count(" + what + ") behind back " + times + ": " + c.count(what));
        }
        return all;
    }

    private static void tellNames(CallSigns c, List<String> all, int day) {
        for (int post = 0; post < 12; post++) all.add("name(" + post + ", " + day + ") " + c.name(post, day));
    }

    private static void tellHands(CallSigns c, List<String> all) {
        all.add("hands() " + c.hands());
        for (int call = 0; call < 60; call++) all.add("hand(" + call + ") " + c.hand(call));
        for (int call = 0; call < 60; call += 20) all.add("odds " + c.odds(call, call + 1, 0) + " of " + c.odds(call, call + 1, 1));
        for (int day = 0; day < 19; day++) all.add("day " + day + ": sum " + c.sum(day) + " rules " + c.rules(day));
        for (int n = 0; n < 12; n++) all.add("name " + n + ": follow " + c.follow(0, n, 0) + " " + c.follow(0, n, 1) + " trace " + c.trace(1, n));
        for (int n = 0; n < 4; n++) all.add("like(0, 0, " + n + ") " + c.like(0, 0, n));
        for (int day = 0; day < 3; day++) all.add("held " + c.held(day, 0) + " " + c.held(day, 1));
    }

    private static void tellOrders(CallSigns c, List<String> all) {
        for (int call = 0; call < 60; call += 2) all.add("fate(" + call + ") " + c.fate(call));
        for (int n = 0; n < 12; n++) all.add("lacks(" + n + ", 0, 19) " + c.lacks(n, 0, 19));
        for (int n = 1; n < 4; n++) all.add("sign " + c.sign(0, n, 0, 19) + " " + c.sign(n, 0, 0, 19));
        for (int n = 0; n < 5; n++) all.add("tree(" + n + ", 0, 0, 0) " + c.tree(n, 0, 0, 0));
        all.add("tree(0, 0, 0, 2) " + c.tree(0, 0, 0, 2));
        all.add("show " + c.show(0, 19) + " " + c.show(0, 0));
    }

    private static void tellPlaces(CallSigns c, List<String> all) {
        for (int day = 0; day < 5; day++) all.add("patch " + day + ": " + c.patch(4, day, 0) + " " + c.patch(4, day, 1));
        all.add("moved " + c.moved(4, 2, 3) + " " + c.moved(4, 2, 4));
        all.add("isIn " + c.isIn(4, 2, 15, 15));
        for (int n = 0; n < 4; n++) all.add("silent(" + n + ", 100, 5) " + c.silent(n, 100, 5));
        for (int n = 0; n < 4; n++) all.add("ahead " + c.ahead(n, 1, 0) + " of " + c.ahead(n, 1, 1) + ", " + c.ahead(n, 1, 2));
        for (int k = 1; k <= 8; k++) all.add("waves(" + k + ", 0, 19, 0) " + c.waves(k, 0, 19, 0));
        all.add("waves " + c.waves(2, 0, 19, 1) + " of " + c.waves(2, 0, 19, 2));
    }

    /** Whether two objects tell the same; both are used up by it. */
    static void alike(String what, CallSigns one, CallSigns other) {
        List<String> first = told(one);
        List<String> second = told(other);
        String unlike = "";
        for (int i = 0; i < first.size(); i++) {
            if (!first.get(i).equals(second.get(i))) unlike = unlike + "; " + first.get(i) + " but " + second.get(i);
        }
        Due.holds(what + unlike, unlike.isEmpty());
    }
}
