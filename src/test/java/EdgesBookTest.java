/** Promises 1 to 8 at their edges; each test begins with the words that it holds the class to. */
public final class EdgesBookTest {
    private EdgesBookTest() { }

    public static void main(String[] args) {
        nothingIsTold();
        callsAsTheyCome();
        sixtyCalls();
        toItself();
        daysOf24();
        lastNumbers();
        bytesHighestFirst();
        twoHundredBytes();
        wiped();
        letters();
        figures();
        marks();
        postsAndNames();
        goingOnItems();
        changingItems();
        firstFault();
        noFault();
        taken();
        takenIsNotTheText();
        less12();
        lastItemK();
        changedPlaces();
        severalChanges();
        toldAndUntold();
        Due.end("EdgesBookTest", 1, 8);
    }

    private static void nothingIsTold() {
        Due.says(1, "Nothing is told; an empty BOOK is TAKEN.");
        CallSigns c = new CallSigns();
        for (int what = 0; what <= 6; what++) Due.due("count(" + what + ")", c.count(what), 0);
        Due.due("no CALL", c.hand(0), Due.BAD);
        Due.due("no HAND", c.hands(), 0);
        Due.due("no FAULT", c.fault(), Due.NONE);
        Due.due("nobody sends", c.trace(0, 0), Due.NONE);
        Due.due("no pairs", c.sum(18), 0);
        Due.due("no tree", c.tree(0, 0, 19, 2), Due.NO);
        Due.due("nobody for show", c.show(0, 19), 0);
        Due.due("a patch is all cells", c.patch(11, 19, 0), 256);
        Due.due("nobody is silent", c.ahead(0, 1, 2), 0);
        Due.due("no events", c.ahead(0, 1, 1), 0);
        Due.due("no links", c.waves(8, 0, 19, 2), 0);
        Due.due("nothing kept", c.back(), Due.NO);
        Due.due("an empty text", c.wipe(), 0);
        CallSigns named = new CallSigns();
        CallSigns posted = new CallSigns();
        for (int day = 0; day < 20; day++) {
            for (int n = 0; n < 12; n++) {
                Due.due("name(" + n + ", " + day + ")", named.name(n, day), Due.NONE);
                Due.due("post(" + n + ", " + day + ")", posted.post(n, day), Due.NONE);
            }
        }
    }

    private static void callsAsTheyCome() {
        Due.says(2, "CALLS 0 to 59 as they come");
        CallSigns c = new CallSigns();
        for (int i = 0; i < 60; i++) Due.due("call " + i, c.call(i % 12, (i + 1) % 12, 479 - i, 99 - i, i % 8, 99 - i), i);
        for (int i = 0; i < 60; i++) Due.due("call " + i + " stands", c.hand(i), 0);
        Due.due("how many", c.count(0), 60);
    }

    private static void sixtyCalls() {
        Due.says(2, "FULL: 60.");
        CallSigns c = new CallSigns();
        for (int i = 0; i < 59; i++) c.call(0, 1, 0, 1, 0, 0);
        c.keep();
        Due.due("the 60th", c.call(0, 1, 479, 1, 7, 99), 59);
        Due.due("the 61st", c.call(0, 1, 0, 1, 0, 0), Due.FULL);
        Due.due("nothing came to it", c.count(0), 60);
        Due.due("the last is what it was", c.hand(59), 59);
        c.back();
        Due.due("one has room again", c.call(0, 1, 0, 1, 0, 50), 59);
        Due.due("and no other one", c.call(0, 1, 0, 1, 0, 50), Due.FULL);
    }

    private static void toItself() {
        Due.says(2, "BAD (from is to, too)");
        CallSigns c = new CallSigns();
        for (int n = 0; n < 12; n++) Due.due("from " + n + " to " + n, c.call(n, n, 0, 1, 0, 0), Due.BAD);
        Due.due("nothing came of it", c.count(0), 0);
        Due.due("from 0 to 1", c.call(0, 1, 0, 1, 0, 0), 0);
        Due.due("from 11 to 10", c.call(11, 10, 0, 1, 0, 0), 1);
    }

    private static void daysOf24() {
        Due.says(2, "DAYS 0 to 19 of 24.");
        for (int day = 0; day < 20; day++) {
            CallSigns c = Due.with(Due.at(0, 1, 24 * day, 1), Due.at(2, 3, 24 * day + 23, 1));
            Due.due("both on day " + day, c.waves(1, day, day, 2), 2);
            if (day > 0) Due.due("none ahead of day " + day, c.waves(1, 0, day - 1, 2), 0);
            if (day < 19) Due.due("none behind day " + day, c.waves(1, day + 1, 19, 2), 0);
            Due.due("it sends", c.trace(day, 0), day == 0 ? 0 : Due.NONE);
            Due.due("in the last hour, too", c.lacks(2, day, day) & 3, 3);
        }
    }

    private static void lastNumbers() {
        Due.says(2, "NAMES 0 to 11, WAVES 0 to 7, HOURS 0 to 479");
        CallSigns c = Due.with(Due.row(0, 11, 0, 1, 0, 0), Due.row(11, 0, 479, 99, 7, 99));
        Due.due("wave 0 in hour 0", c.waves(1, 0, 0, 0), 1);
        Due.due("wave 7 in hour 479", c.waves(1, 19, 19, 0), 128);
        Due.due("11 is called by 0", c.tree(0, 0, 0, 0), 11);
        Due.due("11 calls 0", c.tree(11, 19, 19, 0), Due.NONE);
        Due.says(2, "a PAUSE (0 to 99)");
        c.apart(98);
        Due.due("0 and 99 are two hands", c.hands(), 2);
        c.apart(99);
        Due.due("99 apart they are one", c.hands(), 1);
        Due.says(2, "minutes (1 to 99)");
        for (int minutes : new int[] {1, 99}) {
            Due.due("passed on, as long", Due.with(Due.at(0, 1, 5, minutes), Due.at(1, 2, 6, minutes)).fate(0), 2);
            Due.due("not as long", Due.with(Due.at(0, 1, 5, minutes), Due.at(1, 2, 6, 50)).fate(0), 0);
        }
    }

    /** The n lowest bytes of a text, with others above them that must not count. */
    private static long packed(String text, long above) {
        long v = above;
        for (int i = 0; i < text.length(); i++) v = v << 8 | text.charAt(i);
        return v;
    }

    private static void bytesHighestFirst() {
        Due.says(3, "n bytes (1 to 8) of v, the highest first, come behind THE TEXT: how long it is.");
        String text = "p11,010;";
        for (int n = 1; n <= 8; n++) {
            for (long above : new long[] {0, -1, 0x7070_7070_7070L}) {
                CallSigns c = new CallSigns();
                for (int at = 0; at < 8; at += n) {
                    int end = Math.min(8, at + n);
                    Due.due(n + " bytes", c.write(end - at, packed(text.substring(at, end), above)), end);
                }
                Due.due(n + " bytes: one item", c.take(), 1);
                Due.due(n + " bytes: as written", c.name(11, 0), 10);
            }
        }
        CallSigns c = new CallSigns();
        Due.due("all bits", c.write(8, -1L), 8);
        Due.due("a byte of 255 is no letter", c.fault(), 0);
        Due.due("0 is a byte, too", c.write(1, 0L), 9);
    }

    private static void twoHundredBytes() {
        Due.says(3, "a TEXT of bytes (200 at most)");
        for (int n = 1; n <= 8; n++) {
            CallSigns c = new CallSigns();
            Due.write(c, States.fullText().substring(0, 200 - n));
            Due.due(n + " bytes to 200", c.write(n, packed(States.fullText().substring(200 - n), 0)), 200);
            Due.due("that are 40 items", c.take(), 40);
            for (int more = 1; more <= 8; more++) Due.due(more + " behind 200", c.write(more, 0L), Due.FULL);
            Due.due("200 they are", c.count(1), 200);
            Due.due("and as they were", c.fault(), Due.NONE);
            CallSigns one = new CallSigns();
            Due.write(one, States.fullText().substring(0, 201 - n));
            Due.due(n + " bytes to 201", one.write(n, -1L), Due.FULL);
            Due.due("not one of them was written", one.count(1), 201 - n);
            Due.write(one, States.fullText().substring(201 - n));
            Due.due("the text goes on where it was", one.take(), 40);
        }
    }

    private static void wiped() {
        Due.says(4, "THE TEXT is empty: how long it was.");
        CallSigns c = new CallSigns();
        Due.due("an empty one", c.wipe(), 0);
        c.write(1, 'q');
        Due.due("of one byte", c.wipe(), 1);
        Due.due("no fault is left", c.fault(), Due.NONE);
        Due.write(c, States.fullText());
        Due.due("a full one", c.wipe(), 200);
        Due.due("it is empty", c.count(1), 0);
        Due.due("twice", c.wipe(), 0);
        Due.due("it takes bytes again", c.write(8, 0L), 8);
        Due.due("of eight bytes", c.wipe(), 8);
        Due.write(c, "p1,2;");
        c.take();
        c.wipe();
        Due.due("the BOOK stays TAKEN", c.name(1, 0), 2);
        Due.due("with its ITEM", c.count(2), 1);
        Due.write(c, "k1,");
        Due.due("a part of an ITEM does not end by what stood there", c.fault(), 0);
    }

    /** Where the FAULT of a TEXT is, alone and behind whole ITEMS; a TEXT with one is not TAKEN. */
    private static void fault(String text, int place) {
        faultAt(text, place);
        String ahead = "k1,1;x8,9,19;";
        faultAt(ahead + text, place == Due.NONE ? Due.NONE : place + ahead.length());
    }

    private static void faultAt(String text, int place) {
        CallSigns c = new CallSigns();
        Due.write(c, text);
        Due.due("fault of " + text, c.fault(), place);
        Due.holds("take of " + text, place == Due.NONE ? c.take() >= 0 : c.take() == Due.NO);
        Due.due("the text is as long as before", c.count(1), text.length());
    }

    private static void letters() {
        Due.says(5, "ITEMS, each a letter");
        for (int letter = 0; letter < 256; letter++) {
            boolean twoNumbers = letter == 'p' || letter == 'k';
            faultAt((char) letter + "1,2;", twoNumbers ? Due.NONE : 0);
            faultAt((char) letter + "1,2,3;", letter == 'x' ? Due.NONE : 0);
            for (String rest : new String[] {"", ";", "1;", "1,2,3,4;"}) faultAt((char) letter + rest, 0);
        }
        for (String text : new String[] {"pp1,2;", "1,2;", ";", ",", " p1,2;", "p", "k", "x"}) fault(text, 0);
    }

    private static void figures() {
        Due.says(5, "numbers (of one to three figures)");
        for (String form : new String[] {"p#,1;", "p1,#;", "k#,1;", "k1,#;", "x#,2,1;", "x2,#,1;", "x1,2,#;"}) {
            for (String figures : new String[] {"3", "03", "003"}) fault(form.replace("#", figures), Due.NONE);
            for (String figures : new String[] {"", "0003", "00003", "-3", "+3", " 3", "3 ", "3.", "a", "3a", "/", ":"}) {
                fault(form.replace("#", figures), 0);
            }
            // 0 to 2 are figures, too, but not all ITEMS may have them.
            for (int sign = 0; sign < 256; sign++) {
                boolean figure = sign >= '3' && sign <= '9';
                if (sign < '0' || sign > '2') faultAt(form.replace('#', (char) sign), figure ? Due.NONE : 0);
            }
        }
    }

    private static void marks() {
        Due.says(5, "parted by , and a ; (behind the last one, too)");
        for (String text : new String[] {"p1", "p1,", "p1,2", "p1;", "p1;2;", "p1,2,", "p1,2:", "p1,,2;", "p,1,2;", "p1.2;",
            "p1 2;", "p1,2 ;", "p12;", "k1", "k1,", "k1,2", "k1;2;", "k1,2,", "k1,2,;", "x1", "x1,2", "x1,2;", "x1,2,", "x1,2,3",
            "x1;2,3;", "x1,2;3;", "x1,2,3,", "x1,2,3,;", "x1,2,3,4;", "p1,2,3;", "k1,2,3;"}) {
            fault(text, 0);
        }
        fault("p1,2;k1,2", 5);
        fault("p1,2;;", 5);
        fault("p1,2;,", 5);
        fault("p1,2; k1,2;", 5);
        fault("p1,2;\n", 5);
        fault("p1,2;k1,2;", Due.NONE);
    }

    private static void postsAndNames() {
        Due.says(5, "POST P (0 to 11) is called N (0 to 11) on DAY 0; each P once, each N once");
        for (int n = 0; n < 1000; n++) {
            faultAt("p" + n + ",4;", n <= 11 ? Due.NONE : 0);
            faultAt("p4," + n + ";", n <= 11 ? Due.NONE : 0);
        }
        for (int n = 0; n < 12; n++) {
            int other = 11 - n;
            String item = "p" + n + "," + other + ";";
            fault(item + item, item.length());
            fault(item + "p" + n + "," + n + ";", item.length());
            fault(item + "p" + other + "," + other + ";", item.length());
            fault(item + "p" + other + "," + n + ";", Due.NONE);
            fault(item + "p0" + n + ",00" + other + ";", item.length());
        }
        fault("p4,5;p6,7;k1,1;p8,9;p4,0;", 20);
        fault("p4,5;p6,7;k1,1;p8,9;p0,5;", 20);
        fault("p4,5;p6,7;k1,1;p8,9;p5,4;", Due.NONE);
        StringBuilder twelve = new StringBuilder();
        for (int n = 0; n < 12; n++) twelve.append('p').append(n).append(',').append((n + 7) % 12).append(';');
        fault(twelve.toString(), Due.NONE);
        fault(twelve + "p0,0;", twelve.length());
    }

    private static void goingOnItems() {
        Due.says(5, "at the midnight ahead of DAY d (1 to 19) and at all later ones NAMES go on by K (0 to 11)");
        for (int n = 0; n < 1000; n++) {
            faultAt("k" + n + ",4;", n <= 11 ? Due.NONE : 0);
            faultAt("k4," + n + ";", n >= 1 && n <= 19 ? Due.NONE : 0);
        }
        fault("k4,4;k4,4;k5,4;k4,5;", Due.NONE);
    }

    private static void changingItems() {
        Due.says(5, "at the midnight ahead of DAY d, behind the going on, NAMES A and B (unlike) change places");
        for (int n = 0; n < 1000; n++) {
            faultAt("x" + n + ",4,3;", n <= 11 && n != 4 ? Due.NONE : 0);
            faultAt("x4," + n + ",3;", n <= 11 && n != 4 ? Due.NONE : 0);
            faultAt("x4,5," + n + ";", n >= 1 && n <= 19 ? Due.NONE : 0);
        }
        for (int n = 0; n < 12; n++) {
            fault("x" + n + "," + n + ",1;", 0);
            fault("x" + n + ",0" + n + ",19;", 0);
        }
        fault("x4,5,3;x4,5,3;x5,4,3;", Due.NONE);
    }

    private static void firstFault() {
        Due.says(5, "FAULT: the place of the first byte of the first ITEM that is not so.");
        fault("p1,12;p1,13;", 0);
        fault("p1,2;q;p1,2;", 5);
        fault("p1,2;k1,20;p1,2;", 5);
        fault("p1,2;p3,12;p1,4;", 5);
        fault("p12,2;p1,2;", 0);
        String upTo199 = "k1,1;".repeat(35) + "k1,11;".repeat(4);
        faultAt(upTo199 + "q", 199);
        faultAt(upTo199 + "k", 199);
        faultAt(upTo199, Due.NONE);
        for (int cut = 1; cut <= 4; cut++) faultAt(States.fullText().substring(0, 195 + cut), 195);
        for (int at = 0; at < 200; at++) {
            String text = States.fullText().substring(0, at) + "q" + States.fullText().substring(at + 1);
            faultAt(text, at / 5 * 5);
        }
    }

    private static void noFault() {
        Due.says(5, "FAULT. NONE.");
        faultAt("", Due.NONE);
        faultAt("p0,0;", Due.NONE);
        faultAt("x000,011,019;", Due.NONE);
        faultAt(States.fullText(), Due.NONE);
    }

    private static void taken() {
        Due.says(6, "TAKEN: how many ITEMS. NO: a FAULT.");
        CallSigns c = new CallSigns();
        Due.due("none", c.take(), 0);
        Due.due("one", Due.take(c, "p1,2;"), 1);
        Due.due("40", Due.take(c, States.fullText()), 40);
        Due.due("ITEMS of each kind", Due.take(c, "x1,2,3;k1,1;p5,6;"), 3);
        Due.due("a FAULT in the last ITEM", Due.take(c, "p1,2;p3,4;p1,3;"), Due.NO);
        Due.due("what was TAKEN holds", c.name(5, 0), 6);
        Due.due("nothing of the other one", c.name(3, 0), Due.NONE);
        Due.due("its ITEMS", c.count(2), 3);
        Due.due("a text that does not end", Due.take(c, "p1,2"), Due.NO);
        c.wipe();
        Due.due("an empty one", c.take(), 0);
        Due.due("nothing is told", c.name(5, 0), Due.NONE);
        Due.due("no ITEMS", c.count(2), 0);
    }

    private static void takenIsNotTheText() {
        Due.says(6, "TAKEN is a TEXT without FAULT (an empty one at first).");
        CallSigns c = new CallSigns();
        Due.write(c, "p1,2;");
        Due.due("written, but not TAKEN", c.name(1, 0), Due.NONE);
        Due.due("no ITEMS", c.count(2), 0);
        Due.due("the fault is asked", c.fault(), Due.NONE);
        Due.due("still not TAKEN", c.name(1, 0), Due.NONE);
        Due.due("TAKEN", c.take(), 1);
        Due.write(c, "p3,4;");
        Due.due("more is written", c.name(3, 0), Due.NONE);
        Due.due("the fault is asked", c.fault(), Due.NONE);
        Due.due("still one ITEM", c.count(2), 1);
        Due.due("the first is TAKEN", c.name(1, 0), 2);
        Due.due("TAKEN again", c.take(), 2);
        Due.due("now it is told", c.name(3, 0), 4);
        Due.due("the text stays", c.count(1), 10);
    }

    private static String allPosts() {
        StringBuilder text = new StringBuilder();
        for (int n = 0; n < 12; n++) text.append('p').append(n).append(',').append(n).append(';');
        return text.toString();
    }

    private static void less12() {
        Due.says(7, "N becomes N and K, less 12, if that is 12 or more");
        for (int k = 0; k < 12; k++) {
            CallSigns c = new CallSigns();
            Due.due("taken", Due.take(c, allPosts() + "k" + k + ",1;"), 13);
            for (int n = 0; n < 12; n++) {
                for (int day : new int[] {0, 1, 2, 12, 19}) {
                    int due = (n + k * day) % 12;
                    Due.due(n + " by " + k + " on day " + day, c.name(n, day), due);
                    Due.due(due + " is post " + n + " on day " + day, c.post(due, day), n);
                }
            }
        }
    }

    private static void lastItemK() {
        Due.says(7, "at each midnight the last ITEM k with d no later holds (without: K 0)");
        for (int d = 1; d <= 19; d++) {
            CallSigns c = new CallSigns();
            Due.take(c, "p0,0;k1," + d + ";");
            for (int day = 0; day < 20; day++) {
                Due.due("from " + d + " on, day " + day, c.name(0, day), Math.max(0, day - d + 1) % 12);
            }
        }
        names("p0,0;", 0, 0, 0, 0, 0, 0, 0);
        names("p0,0;k2,3;k1,5;", 0, 0, 0, 2, 4, 5, 6);
        // The last in the TEXT, though its d is not the latest one.
        names("p0,0;k1,5;k2,3;", 0, 0, 0, 2, 4, 6, 8);
        names("p0,0;k1,3;k2,3;", 0, 0, 0, 2, 4, 6, 8);
        names("p0,0;k5,2;k0,3;", 0, 0, 5, 5, 5, 5, 5);
        names("k5,2;p0,0;k0,4;", 0, 0, 5, 10, 10, 10, 10);
        names("p0,0;k11,1;k1,4;", 0, 11, 10, 9, 10, 11, 0);
    }

    /** The NAMES of POST 0 on DAY 0, 1, .. */
    private static void names(String text, int... due) {
        CallSigns c = new CallSigns();
        Due.holds(text + " is taken", Due.take(c, text) > 0);
        for (int day = 0; day < due.length; day++) Due.due(text + " on day " + day, c.name(0, day), due[day]);
        for (int day = 0; day < due.length; day++) Due.due(text + " back on day " + day, c.post(due[day], day), 0);
    }

    private static void changedPlaces() {
        Due.says(7, "at the midnight ahead of DAY d, behind the going on, NAMES A and B (unlike) change places");
        for (int d = 1; d <= 19; d++) {
            for (String pair : new String[] {"3,8", "8,3"}) {
                CallSigns c = new CallSigns();
                Due.take(c, "p0,3;x" + pair + "," + d + ";");
                for (int day = 0; day < 20; day++) Due.due(pair + " at " + d + ", day " + day, c.name(0, day), day < d ? 3 : 8);
                Due.due("the other NAME has no POST then", c.post(3, d), Due.NONE);
                Due.due("nor this one ahead of it", c.post(8, d - 1), Due.NONE);
            }
        }
        CallSigns c = new CallSigns();
        Due.take(c, "p0,0;p1,11;p2,5;x0,11,4;x7,8,4;");
        Due.due("0 is 11", c.name(0, 4), 11);
        Due.due("11 is 0", c.name(1, 4), 0);
        Due.due("5 stays", c.name(2, 4), 5);
        Due.due("where nobody is, nobody comes", c.post(7, 4), Due.NONE);
        names("p0,0;x0,5,3;k4,3;", 0, 0, 0, 4, 8, 0);
        names("p0,0;x4,5,3;k4,3;", 0, 0, 0, 5, 9, 1);
    }

    private static void severalChanges() {
        Due.says(7, "several one behind the other");
        names("p0,0;x0,1,1;x1,2,1;", 0, 2, 2);
        names("x0,1,1;p0,0;x1,2,1;", 0, 2, 2);
        names("p0,0;x1,2,1;x0,1,1;", 0, 1, 1);
        names("p0,0;x0,1,1;x0,1,1;", 0, 0, 0);
        names("p0,0;x0,1,1;x1,0,2;", 0, 1, 0);
        names("p0,0;x1,2,2;x0,1,1;", 0, 1, 2);
        names("p0,0;x0,1,1;x1,2,1;x2,3,1;x3,11,1;", 0, 11, 11);
    }

    private static void toldAndUntold() {
        Due.says(7, "By it each POST that is told has a NAME on each DAY");
        CallSigns c = new CallSigns();
        Due.take(c, "p3,4;k5,2;x1,2,7;");
        for (int day = 0; day < 20; day++) {
            Due.holds("post 3 has a name", c.name(3, day) >= 0);
            for (int post : new int[] {0, 2, 4, 11}) Due.due("an untold post", c.name(post, day), Due.NONE);
        }
        Due.says(8, "a NAME a POST, or none");
        for (int told : new int[] {0, 1, 11, 12}) {
            CallSigns d = new CallSigns();
            Due.take(d, allPosts().substring(0, told <= 10 ? 5 * told : 50 + 7 * (told - 10)) + "k7,2;x0,4,3;");
            for (int day = 0; day < 20; day++) {
                int none = 0;
                for (int name = 0; name < 12; name++) none += d.post(name, day) == Due.NONE ? 1 : 0;
                Due.due(told + " told: names without a post on day " + day, none, 12 - told);
            }
        }
    }
}
