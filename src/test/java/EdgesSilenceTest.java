/** Promises 30 to 37 at their edges; each test begins with the words that it holds the class to. */
public final class EdgesSilenceTest {
    private EdgesSilenceTest() { }

    public static void main(String[] args) {
        twentyListened();
        noCallInTheseHours();
        listenedInAllOfThese();
        eachWave();
        withoutAnyCall();
        tenEvents();
        eventsFromS();
        allHours();
        linksOnce();
        linksOfTheseDays();
        bestWaves();
        keptTwice();
        keptOfFull();
        asKeptLast();
        whatIsNotKept();
        counts();
        Due.end("EdgesSilenceTest", 30, 37);
    }

    private static void twentyListened() {
        Due.says(30, "LISTENED: how many. BAD (a above b); FULL: 20.");
        CallSigns c = Due.with(Due.row(0, 1, 0, 1, 7, 0));
        for (int i = 1; i <= 19; i++) Due.due("LISTENED " + i, c.listen(0, 479, 479), i);
        c.keep();
        Due.due("a above b", c.listen(7, 101, 100), Due.BAD);
        Due.due("19 they are", c.count(4), 19);
        Due.due("LISTENED 20, one HOUR", c.listen(7, 100, 100), 20);
        Due.due("the 20th counts", c.silent(0, 101, 1), 1);
        Due.due("LISTENED 21", c.listen(7, 0, 479), Due.FULL);
        Due.due("20 they are", c.count(4), 20);
        Due.due("the 21st does not count", c.silent(0, 100, 1), 0);
        c.back();
        Due.due("the 20th is gone", c.silent(0, 101, 1), 0);
        Due.due("one has room again", c.listen(7, 0, 479), 20);
        Due.due("and counts", c.silent(0, 100, 1), 1);
    }

    private static void noCallInTheseHours() {
        Due.says(31, "if it has no CALL in HOURS t - s to t - 1");
        for (int s : new int[] {1, 2, 47, 48}) {
            CallSigns c = Due.with(Due.row(0, 1, 100, 1, 3, 0), Due.row(1, 0, 99, 1, 3, 0));
            c.listen(3, 0, 479);
            for (int t = 48; t <= 160; t++) {
                int due = t - s > 100 || t - 1 < 100 ? 1 : 0;
                Due.due(s + " ahead of " + t, c.silent(0, t, s), due);
            }
            Due.due("from HOUR 0 on", c.silent(0, s, s), 1);
            Due.due("t below s", c.silent(0, s - 1, s), Due.BAD);
            Due.due("ahead of the last HOUR", c.silent(0, 479, s), 1);
            Due.due("ahead of HOUR 480", c.silent(0, 480, s), Due.BAD);
        }
        CallSigns ends = Due.with(Due.row(0, 1, 0, 1, 3, 0), Due.row(0, 1, 479, 1, 3, 0));
        ends.listen(3, 0, 479);
        Due.due("a CALL in HOUR 0", ends.silent(0, 1, 1), 0);
        Due.due("a CALL in HOUR 0, behind it", ends.silent(0, 2, 1), 1);
        Due.due("a CALL in HOUR 479", ends.silent(0, 479, 48), 1);
    }

    private static void listenedInAllOfThese() {
        Due.says(31, "was LISTENED to in all of these");
        for (int s : new int[] {1, 2, 48}) {
            CallSigns c = Due.with(Due.row(0, 1, 10, 1, 3, 0));
            c.listen(3, 200, 250);
            for (int t = 150; t <= 300; t++) Due.due(s + " ahead of " + t, c.silent(0, t, s), t - s >= 200 && t - 1 <= 250 ? 1 : 0);
        }
        CallSigns c = Due.with(Due.row(0, 1, 10, 1, 3, 0));
        c.listen(3, 20, 29);
        c.listen(3, 31, 40);
        Due.due("HOUR 30 is missing", c.silent(0, 36, 10), 0);
        c.listen(2, 30, 30);
        Due.due("another WAVE", c.silent(0, 36, 10), 0);
        c.listen(3, 30, 30);
        Due.due("one behind the other", c.silent(0, 36, 10), 1);
        Due.due("from the first to the last", c.silent(0, 41, 21), 1);
        Due.due("one more ahead", c.silent(0, 41, 22), 0);
        Due.due("one more behind", c.silent(0, 42, 21), 0);
        c.listen(3, 0, 479);
        Due.due("all HOURS", c.silent(0, 479, 48), 1);
        Due.due("HOUR 0", c.silent(0, 1, 1), 1);
    }

    private static void eachWave() {
        Due.says(31, "each WAVE on which it has any CALL");
        CallSigns c = new CallSigns();
        for (int wave = 0; wave < 8; wave++) Due.add(c, Due.row(0, 1, 470 + wave, 1, wave, 0));
        for (int wave = 0; wave < 8; wave++) {
            Due.due(wave + " of eight are LISTENED to", c.silent(0, 50, 5), 0);
            c.listen(7 - wave, 45, 49);
        }
        Due.due("all eight", c.silent(0, 50, 5), 1);
        Due.add(c, Due.row(1, 0, 0, 1, 2, 0));
        Due.due("of another one only its own", c.silent(1, 50, 5), 1);
        CallSigns called = Due.with(Due.row(0, 1, 400, 1, 3, 0), Due.row(2, 0, 47, 1, 6, 0));
        called.listen(3, 0, 479);
        Due.due("CALLS to it do not count", called.silent(0, 50, 5), 1);
    }

    private static void withoutAnyCall() {
        Due.says(31, "(Without any CALL it is not SILENT.)");
        CallSigns c = Due.with(Due.row(0, 1, 479, 1, 3, 0));
        for (int wave = 0; wave < 8; wave++) c.listen(wave, 0, 479);
        Due.due("with one", c.silent(0, 50, 5), 1);
        for (int name = 1; name < 12; name++) {
            Due.due("without: " + name, c.silent(name, 50, 5), 0);
            Due.due("without, HOURS: " + name, c.ahead(name, 1, 2), 0);
        }
    }

    private static void tenEvents() {
        Due.says(32, "An EVENT: how many. BAD; FULL: 10.");
        CallSigns c = new CallSigns();
        for (int i = 1; i <= 9; i++) Due.due("EVENT " + i, c.event(i), i);
        c.keep();
        Due.due("HOUR 480", c.event(480), Due.BAD);
        Due.due("HOUR -1", c.event(-1), Due.BAD);
        Due.due("EVENT 10", c.event(479), 10);
        Due.due("the 10th counts", c.ahead(0, 48, 1), 1);
        Due.due("EVENT 11", c.event(478), Due.FULL);
        Due.due("10 they are", c.count(5), 10);
        Due.due("the 11th does not count", c.ahead(0, 48, 1), 1);
        c.back();
        Due.due("the 10th is gone", c.ahead(0, 48, 1), 0);
        Due.due("one has room again", c.event(48), 10);
        Due.due("and counts", c.ahead(0, 48, 1), 1);
    }

    private static void eventsFromS() {
        Due.says(33, "AHEAD: of EVENTS in HOURS s and later how many it was SILENT ahead of");
        for (int s = 1; s <= 48; s++) {
            CallSigns c = Due.with(Due.row(0, 1, 479, 1, 0, 0));
            c.listen(0, 0, 479);
            for (int hour : new int[] {0, s - 1, s, s + 1, 479}) c.event(hour);
            Due.due("s " + s + ": in HOURS s and later", c.ahead(0, s, 1), 3);
            Due.due("s " + s + ": SILENT ahead of all of them", c.ahead(0, s, 0), 3);
            Due.due("s " + s + ": who has no CALL, ahead of none", c.ahead(1, s, 0), 0);
            Due.due("s " + s + ": of as many", c.ahead(1, s, 1), 3);
        }
        CallSigns c = Due.with(Due.row(0, 1, 100, 1, 0, 0));
        c.listen(0, 0, 479);
        for (int hour : new int[] {100, 101, 105, 106, 106}) c.event(hour);
        Due.due("the CALL is in 100: not ahead of 101 and 105", c.ahead(0, 5, 0), 3);
        Due.due("EVENTS in one HOUR count each", c.ahead(0, 5, 1), 5);
        Due.due("none without EVENTS", new CallSigns().ahead(0, 1, 1), 0);
    }

    private static void allHours() {
        Due.says(33, "of all HOURS s to 479 likewise");
        for (int s = 1; s <= 48; s++) {
            CallSigns c = new CallSigns();
            Due.due("s " + s + ": of all", c.ahead(0, s, 3), 480 - s);
            c.listen(0, 0, 479);
            Due.due("s " + s + ": none", c.ahead(0, s, 2), 0);
            Due.add(c, Due.row(0, 1, 479, 1, 0, 0));
            Due.due("s " + s + ": all, as no HOUR is behind the CALL", c.ahead(0, s, 2), 480 - s);
            Due.add(c, Due.row(0, 1, 478, 1, 0, 0));
            Due.due("s " + s + ": all but the last", c.ahead(0, s, 2), 479 - s);
            Due.add(c, Due.row(0, 1, 200, 1, 0, 0));
            Due.due("s " + s + ": less those with HOUR 200", c.ahead(0, s, 2), 479 - 2 * s);
            Due.add(c, Due.row(0, 1, 0, 1, 0, 0));
            Due.due("s " + s + ": less the first", c.ahead(0, s, 2), 478 - 2 * s);
        }
    }

    private static void linksOnce() {
        Due.says(34, "from whom to whom CALLS of these DAYS are, each once");
        CallSigns c = new CallSigns();
        Due.due("none", c.waves(8, 0, 19, 2), 0);
        for (int i = 0; i < 5; i++) Due.add(c, Due.row(0, 1, i, 1, i, 0));
        Due.due("one", c.waves(1, 0, 0, 2), 1);
        Due.due("on one WAVE it is reached", c.waves(1, 0, 0, 1), 1);
        Due.due("on five it is one", c.waves(5, 0, 0, 1), 1);
        Due.add(c, Due.row(1, 0, 9, 1, 7, 0));
        Due.due("back is another one", c.waves(1, 0, 0, 2), 2);
        Due.due("with WAVES 0 and 7 both", c.waves(2, 0, 0, 0), 129);
        CallSigns sixty = new CallSigns();
        for (int i = 0; i < 60; i++) Due.add(sixty, Due.row(i / 5, (i / 5 + 1 + i % 5) % 12, i, 1, 3, 0));
        Due.due("60 LINKS", sixty.waves(1, 0, 19, 2), 60);
        Due.due("all on WAVE 3", sixty.waves(1, 0, 19, 1), 60);
        Due.due("as bits", sixty.waves(1, 0, 19, 0), 8);
    }

    private static void linksOfTheseDays() {
        Due.says(34, "LINKS on DAYS d to e");
        CallSigns c = new CallSigns();
        int[] hours = {119, 120, 143, 144, 167, 168};
        for (int i = 0; i < 6; i++) Due.add(c, Due.row(i, 11, hours[i], 1, i, 0));
        int[][] due = {{5, 5, 2}, {6, 6, 2}, {5, 6, 4}, {4, 6, 5}, {5, 7, 5}, {0, 19, 6}, {4, 4, 1}, {7, 7, 1}, {0, 3, 0}, {8, 19, 0}};
        for (int[] days : due) {
            Due.due(days[0] + " to " + days[1], c.waves(8, days[0], days[1], 2), days[2]);
            Due.due(days[0] + " to " + days[1] + ", all WAVES", c.waves(8, days[0], days[1], 1), days[2]);
        }
        Due.due("the WAVES of DAYS 5 and 6", c.waves(4, 5, 6, 0), 2 | 4 | 8 | 16);
        Due.due("d above e", c.waves(1, 6, 5, 2), Due.BAD);
        Due.add(c, Due.row(1, 11, 300, 1, 0, 0));
        Due.due("a CALL of another DAY does not count", c.waves(1, 5, 5, 0), 2);
    }

    private static void bestWaves() {
        Due.says(34, "by which most LINKS have a CALL on one of these; of several the least bits; how many LINKS");
        CallSigns none = new CallSigns();
        for (int k = 1; k <= 8; k++) {
            Due.due(k + " of no CALLS: the least bits", none.waves(k, 0, 19, 0), (1 << k) - 1);
            Due.due(k + " of no CALLS", none.waves(k, 0, 19, 1), 0);
        }
        Due.due("k 0", none.waves(0, 0, 19, 0), Due.BAD);
        Due.due("k 9", none.waves(9, 0, 19, 0), Due.BAD);
        CallSigns seven = Due.with(Due.row(0, 1, 0, 1, 7, 0));
        for (int k = 1; k <= 8; k++) {
            Due.due(k + " with WAVE 7", seven.waves(k, 0, 19, 0), 128 | (1 << (k - 1)) - 1);
            Due.due(k + " with WAVE 7: one LINK", seven.waves(k, 0, 19, 1), 1);
        }
        // WAVE 5 has two LINKS, 6 and 7 one more each; 6 and 7 share theirs with nobody.
        CallSigns c = Due.with(Due.row(0, 1, 0, 1, 5, 0), Due.row(2, 3, 0, 1, 5, 0), Due.row(4, 5, 0, 1, 6, 0), Due.row(6, 7, 0, 1, 7, 0));
        Due.due("the best one", c.waves(1, 0, 0, 0), 32);
        Due.due("of two the least", c.waves(2, 0, 0, 0), 32 | 64);
        Due.due("three LINKS", c.waves(2, 0, 0, 1), 3);
        Due.due("three", c.waves(3, 0, 0, 0), 32 | 64 | 128);
        Due.due("four LINKS", c.waves(3, 0, 0, 1), 4);
        // The two best WAVES share their LINKS, so the best two are others.
        CallSigns d = Due.with(Due.row(0, 1, 0, 1, 6, 0), Due.row(2, 3, 0, 1, 6, 0), Due.row(0, 1, 0, 1, 7, 0), Due.row(2, 3, 0, 1, 7, 0),
                Due.row(4, 5, 0, 1, 3, 0));
        Due.due("6 and 3", d.waves(2, 0, 0, 0), 8 | 64);
        Due.due("reach three", d.waves(2, 0, 0, 1), 3);
    }

    private static void keptTwice() {
        Due.says(35, "KEPT are CALLS, BEARINGS, LISTENED, EVENTS: 2 at most.");
        CallSigns c = new CallSigns();
        Due.due("one", c.keep(), 1);
        Due.due("two", c.keep(), 2);
        for (int i = 0; i < 3; i++) Due.due("no third one", c.keep(), Due.FULL);
        Due.due("two they are", c.count(6), 2);
        Due.due("back", c.back(), 1);
        Due.due("two again", c.keep(), 2);
        Due.due("no third one", c.keep(), Due.FULL);
        Due.due("back", c.back(), 1);
        Due.due("back", c.back(), 0);
        Due.says(36, "As KEPT last: how many are left. NO.");
        for (int i = 0; i < 3; i++) Due.due("nothing KEPT", c.back(), Due.NO);
        Due.due("one again", c.keep(), 1);
        CallSigns full = States.some();
        full.keep();
        Due.add(full, Due.row(9, 8, 3, 1, 6, 66));
        Due.due("FULL does not keep in place of the last", full.keep(), Due.FULL);
        full.back();
        States.alike("it is as KEPT, not as at the FULL", full, States.some());
    }

    private static void keptOfFull() {
        Due.says(35, "KEPT: how many. FULL.");
        CallSigns c = States.full();
        Due.due("as KEPT with all of it", c.back(), 1);
        Due.due("60 CALLS", c.count(0), 60);
        Due.due("40 BEARINGS", c.count(3), 40);
        Due.due("20 LISTENED", c.count(4), 20);
        Due.due("10 EVENTS", c.count(5), 10);
        Due.due("kept again", c.keep(), 2);
        Due.due("still FULL", c.call(0, 1, 0, 1, 0, 0), Due.FULL);
        Due.due("back", c.back(), 1);
        Due.due("as KEPT with 59 CALLS", c.back(), 0);
        Due.due("59 CALLS", c.count(0), 59);
        Due.due("no BEARINGS", c.count(3), 0);
        Due.due("room for one", c.call(0, 1, 0, 1, 0, 0), 59);
    }

    private static void more(CallSigns c, int seed) {
        for (int i = 0; i < 6; i++) c.call((seed + i) % 12, (seed + i + 5) % 12, 11 * i + seed, 1 + seed, (i + seed) % 8, 7 * i + seed);
        c.bearing(0, 4, 2, -1, seed % 9, 2);
        c.listen(3, seed, 400);
        c.event(50 + seed);
    }

    private static void asKeptLast() {
        Due.says(36, "As KEPT last");
        CallSigns c = States.some();
        c.keep();
        more(c, 3);
        Due.holds("much is otherwise now", !States.told(copyWithMore(3)).equals(States.told(States.some())));
        Due.due("back", c.back(), 1);
        States.alike("as KEPT", c, States.some());
        // What is told behind back stands where what it took away stood.
        CallSigns again = States.some();
        again.keep();
        more(again, 3);
        again.back();
        more(again, 4);
        States.alike("what was taken away leaves nothing", again, copyWithMore(4));
        // KEPT twice with more between: back to the later one, then to the earlier one.
        CallSigns first = new CallSigns();
        first.keep();
        more(first, 1);
        first.keep();
        more(first, 2);
        Due.due("to the later one", first.back(), 1);
        CallSigns due = new CallSigns();
        due.keep();
        more(due, 1);
        States.alike("the later one", first, due);
        CallSigns last = new CallSigns();
        last.keep();
        more(last, 1);
        last.keep();
        last.back();
        Due.due("to the earlier one", last.back(), 0);
        States.alike("the earlier one", last, new CallSigns());
    }

    private static CallSigns copyWithMore(int seed) {
        CallSigns c = States.some();
        more(c, seed);
        return c;
    }

    private static void whatIsNotKept() {
        Due.says(36, "KEPT are CALLS, BEARINGS, LISTENED, EVENTS");
        CallSigns c = States.some();
        c.keep();
        changeTheRest(c);
        c.back();
        CallSigns due = States.some();
        changeTheRest(due);
        States.alike("T, H, HEARERS, THE TEXT and the BOOK stay", c, due);
    }

    private static void changeTheRest(CallSigns c) {
        c.apart(9);
        c.within(8);
        for (int hearer = 0; hearer < 4; hearer++) c.hearer(hearer, 2, hearer);
        Due.take(c, "p7,2;k5,3;");
        Due.write(c, "k");
    }

    private static void counts() {
        Due.says(37, "How many: 0 CALLS, 1 bytes of THE TEXT, 2 ITEMS TAKEN, 3 BEARINGS, 4 LISTENED, 5 EVENTS, 6 KEPT. BAD.");
        int[] none = new int[7];
        int[] some = {20, 17, 4, 4, 3, 3, 1};
        int[] all = {60, 200, 39, 40, 20, 10, 2};
        for (int what = 0; what <= 6; what++) {
            Due.due("of none: " + what, new CallSigns().count(what), none[what]);
            Due.due("of some: " + what, States.some().count(what), some[what]);
            Due.due("of all there can be: " + what, States.full().count(what), all[what]);
        }
        for (int what : new int[] {-1, 7, Integer.MIN_VALUE, Integer.MAX_VALUE}) {
            Due.due("no such: " + what, States.some().count(what), Due.BAD);
        }
        CallSigns c = States.full();
        Due.due("the TEXT is TAKEN", c.take(), 40);
        Due.due("40 ITEMS", c.count(2), 40);
        c.wipe();
        Due.due("no bytes", c.count(1), 0);
        Due.due("40 ITEMS are TAKEN", c.count(2), 40);
    }
}
