/** Promises 9 to 18: apart, hand, hands, odds, like, follow, sum, rules, trace, held. */
public final class HandsNamesTest {
    private HandsNamesTest() { }

    public static void main(String[] args) {
        apart();
        hands();
        odds();
        like();
        follow();
        followTies();
        followAfterAnother();
        followTooMany();
        rules();
        trace();
        traceNo();
        held();
        Due.end("HandsNamesTest");
    }

    private static void apart() {
        CallSigns c = new CallSigns();
        Due.due("9: at first", c.apart(7), 3);
        Due.due("9: then", c.apart(99), 7);
        Due.due("9: BAD", c.apart(100), Due.BAD);
        Due.due("9: BAD", c.apart(-1), Due.BAD);
        Due.due("9: unchanged", c.apart(0), 99);
    }

    private static void hands() {
        // PAUSES 20, 10, 14, 17, 99: T is 3, so 14, 17, 20 are linked; 10 is four off 14.
        CallSigns c = Due.with(Due.row(0, 1, 0, 1, 0, 20), Due.row(1, 2, 0, 1, 0, 10), Due.row(2, 3, 0, 1, 0, 14),
                Due.row(3, 4, 0, 1, 0, 17), Due.row(4, 5, 0, 1, 0, 99));
        int[] due = {0, 1, 0, 0, 4};
        for (int call = 0; call < 5; call++) Due.due("10: hand of " + call, c.hand(call), due[call]);
        Due.due("11: hands", c.hands(), 3);
        c.call(5, 6, 9, 1, 0, 12);
        Due.due("10: 12 joins 10 and 14", c.hand(1), 0);
        Due.due("10: and is of it", c.hand(5), 0);
        Due.due("11: two are left", c.hands(), 2);
        c.apart(2);
        Due.due("10: 17 is three off 14", c.hand(3), 3);
        Due.due("10: 10, 12, 14", c.hand(5), 1);
        Due.due("11: with T 2", c.hands(), 4);
        c.apart(0);
        Due.due("11: with T 0", c.hands(), 6);
        c.call(5, 6, 9, 1, 0, 99);
        Due.due("10: alike pauses", c.hand(6), 4);
        Due.due("11: alike pauses", c.hands(), 6);
        c.apart(78);
        Due.due("11: 99 is 79 off 20", c.hands(), 2);
        c.apart(79);
        Due.due("11: T 79", c.hands(), 1);
        Due.due("10: all are by the lowest call's", c.hand(6), 0);
        CallSigns low = Due.with(Due.row(0, 1, 0, 1, 0, 3), Due.row(0, 1, 0, 1, 0, 0), Due.row(0, 1, 0, 1, 0, 6));
        for (int call = 0; call < 3; call++) Due.due("10: from pause 0 on", low.hand(call), 0);
        Due.due("11: none", new CallSigns().hands(), 0);
        Due.due("10: none", new CallSigns().hand(0), Due.BAD);
    }

    private static void odds() {
        // Pauses 0, 3, 7, 7: apart are 3, 7, 7, 4, 4, 0.
        CallSigns c = Due.with(Due.row(0, 1, 0, 1, 0, 0), Due.row(0, 1, 0, 1, 0, 3), Due.row(0, 1, 30, 1, 0, 7),
                Due.row(2, 1, 0, 1, 0, 7));
        Due.due("12: 0 apart", c.odds(2, 3, 0), 1);
        Due.due("12: 3 apart", c.odds(1, 0, 0), 2);
        Due.due("12: 4 apart", c.odds(1, 3, 0), 4);
        Due.due("12: 7 apart", c.odds(3, 0, 0), 6);
        Due.due("12: of all", c.odds(3, 0, 1), 6);
        Due.due("12: alike", c.odds(2, 2, 0), Due.BAD);
        Due.due("12: T is not looked at", c.apart(99), 3);
        Due.due("12: still", c.odds(1, 0, 0), 2);
        Due.due("12: one call", Due.with(Due.row(0, 1, 0, 1, 0, 0)).odds(0, 1, 1), Due.BAD);
    }

    private static void like() {
        CallSigns c = Due.with(
                Due.row(0, 1, 5, 1, 0, 10), Due.row(0, 1, 6, 1, 1, 30), Due.row(0, 1, 6, 1, 1, 50),
                Due.row(3, 1, 29, 1, 1, 52), Due.row(3, 1, 30, 1, 0, 8), Due.row(3, 1, 31, 1, 2, 9),
                Due.row(4, 3, 40, 1, 7, 90), Due.row(0, 3, 41, 1, 1, 70));
        // Two hands (10, 50), two waves (0, 1), two hours (5, 6): 6, 4 and 2.
        Due.due("13: all three", c.like(0, 0, 3), 12);
        Due.due("13: nothing", c.like(0, 0, 4), 0);
        Due.due("13: with itself, wave 1", c.like(0, 0, 0), 2);
        Due.due("13: who is called does not send", c.like(0, 1, 3), Due.NONE);
        Due.due("13: on the next day", c.like(0, 0, 1), Due.NONE);
        Due.due("13: the other way there is none", c.like(1, 3, 0), Due.NONE);
        c.apart(0);
        Due.due("13: no hand is left", c.like(0, 0, 3), 6);
        c.apart(20);
        Due.due("13: one hand for all", c.like(0, 0, 3), 9);
        Due.due("13: BAD ahead of NONE", c.like(19, 7, 8), Due.BAD);
    }

    private static void follow() {
        // LIKE: 1 to 5 is 3 (hand), 1 to 6 is 2 (wave), 2 to 5 is 2 (wave), 2 to 6 is 0: 4 in all beats 3.
        CallSigns c = Due.with(Due.on(0, 1, 0, 0, 0), Due.on(0, 2, 1, 1, 20), Due.on(1, 5, 2, 1, 1), Due.on(1, 6, 3, 0, 40));
        Due.due("14: not the best one first", c.follow(0, 1, 0), 6);
        Due.due("14: 2 takes 5", c.follow(0, 2, 0), 5);
        Due.due("14: sure", c.follow(0, 1, 1), 1);
        Due.due("14: sure", c.follow(0, 2, 1), 1);
        Due.due("15: 2 and 2", c.sum(0), 4);
        Due.due("14: does not send", c.follow(0, 3, 0), Due.NONE);
        Due.due("14: does not send, sure", c.follow(0, 3, 1), Due.NONE);
        Due.due("14: another midnight", c.follow(1, 5, 0), Due.NONE);
        Due.due("15: another midnight", c.sum(1), 0);
        c.call(7, 1, 27, 1, 7, 80);
        Due.due("14: nobody becomes 7", c.follow(0, 2, 0), 5);
        c.call(0, 1, 23, 1, 6, 99);
        Due.due("14: with LIKE 0 it goes with none", c.follow(0, 0, 0), Due.NONE);
        Due.due("14: with LIKE 0 it goes with none, sure", c.follow(0, 0, 1), Due.NONE);
        Due.due("15: it brings nothing", c.sum(0), 4);
        Due.due("14: 1 as before", c.follow(0, 1, 0), 6);
        Due.due("14: 2 as before", c.follow(0, 2, 0), 5);
        Due.due("14: sure as before", c.follow(0, 1, 1) + c.follow(0, 2, 1), 2);
        Due.add(c, Due.on(5, 1, 0, 0, 0), Due.on(6, 2, 1, 1, 99));
        c.sum(0);
        Due.due("15: one midnight leaves nothing to another", c.sum(5), 0);
        CallSigns last = Due.with(Due.on(18, 1, 0, 0, 0), Due.on(19, 2, 0, 0, 0));
        Due.due("14: the last midnight", last.follow(18, 1, 0), 2);
        Due.due("15: the last midnight", last.sum(18), 6);
    }

    private static void followTies() {
        // 4 and 9 both could become 2 or 3: the lowest has the lower one, and nothing is sure.
        CallSigns c = Due.with(Due.on(0, 4, 0, 0, 0), Due.on(0, 9, 1, 0, 20), Due.on(1, 2, 2, 0, 40), Due.on(1, 3, 3, 0, 60));
        Due.due("14: the lowest has the lower", c.follow(0, 4, 0), 2);
        Due.due("14: the next the other", c.follow(0, 9, 0), 3);
        Due.due("14: not sure", c.follow(0, 4, 1), 0);
        Due.due("14: not sure", c.follow(0, 9, 1), 0);
        Due.due("15: both", c.sum(0), 4);
        Due.due("16: nothing sure", c.rules(0), 4095);
        // One for two: none counts as 12, so the lower one gets it.
        CallSigns d = Due.with(Due.on(0, 4, 0, 0, 0), Due.on(0, 9, 1, 0, 20), Due.on(1, 3, 2, 0, 40));
        Due.due("14: the lower gets it", d.follow(0, 4, 0), 3);
        Due.due("14: the other none", d.follow(0, 9, 0), Due.NONE);
        Due.due("14: not sure", d.follow(0, 4, 1), 0);
        Due.due("14: none is none", d.follow(0, 9, 1), Due.NONE);
        // A third one that shares nothing but a hand with the one of two is sure.
        Due.add(d, Due.on(0, 1, 3, 1, 60), Due.on(1, 8, 4, 2, 61));
        Due.due("14: 1 is sure", d.follow(0, 1, 1), 1);
        Due.due("14: as 8", d.follow(0, 1, 0), 8);
        Due.due("16: by 7", d.rules(0), 1 << 7);
        // Two for one: which of them is open, though the one is paired in each pairing.
        CallSigns e = Due.with(Due.on(0, 4, 0, 0, 0), Due.on(1, 7, 1, 0, 20), Due.on(1, 6, 2, 0, 40));
        Due.due("14: the lower of two", e.follow(0, 4, 0), 6);
        Due.due("14: not sure", e.follow(0, 4, 1), 0);
    }

    /** What one midnight worked out must not show in the next one that is asked for. */
    private static void followAfterAnother() {
        CallSigns c = Due.with(Due.on(0, 0, 23, 7, 99), Due.on(0, 1, 0, 0, 0), Due.on(1, 1, 0, 0, 0),
                Due.on(5, 1, 0, 0, 0), Due.on(5, 2, 1, 1, 30), Due.on(6, 5, 5, 1, 1), Due.on(6, 6, 1, 6, 60));
        Due.due("14: none with LIKE 0", c.follow(0, 0, 0), Due.NONE);
        // 1 to 5 is 3, 2 to 5 is 2, 2 to 6 is 1: 2 would have 5, if 1 had not.
        Due.due("14: 2 becomes 6", c.follow(5, 2, 0), 6);
        c.follow(0, 0, 0);
        Due.due("14: for sure", c.follow(5, 2, 1), 1);
        Due.due("15: 3 and 1", c.sum(5), 4);
        CallSigns d = new CallSigns();
        for (int name = 0; name < 8; name++) Due.add(d, Due.on(0, name, 0, 0, 0), Due.on(1, name, 0, 0, 0));
        Due.add(d, Due.on(9, 0, 1, 1, 10), Due.on(9, 1, 2, 2, 20), Due.on(10, 0, 3, 3, 10), Due.on(10, 1, 4, 4, 20));
        d.sum(0);
        Due.due("14: sure behind one where nothing is", d.follow(9, 0, 1), 1);
        d.sum(0);
        Due.due("14: the next too", d.follow(9, 1, 1), 1);
        d.sum(0);
        Due.due("16: by 0", d.rules(9), 1);
        Due.due("16: nothing is sure", d.rules(0), 4095);
        // 0 to 0 is 9, 1 to 0 and 1 to 1 are 6 each, as all are at the midnight ahead of DAY 1.
        for (int pause : new int[] {10, 30, 50}) Due.add(d, Due.on(13, 0, 1, 1, pause), Due.on(14, 0, 2, 2, pause));
        Due.add(d, Due.on(14, 0, 2, 2, 70), Due.on(13, 1, 2, 2, 70), Due.on(13, 1, 3, 3, 90), Due.on(14, 1, 3, 3, 90));
        d.sum(0);
        Due.due("14: 1 is 1 for sure", d.follow(13, 1, 1), 1);
        Due.due("15: 9 and 6", d.sum(13), 15);
    }

    private static void followTooMany() {
        CallSigns c = new CallSigns();
        for (int name = 0; name < 8; name++) Due.add(c, Due.on(0, name, 0, 0, 0), Due.on(1, name, 0, 0, 0));
        Due.due("15: eight and eight", c.sum(0), 48);
        Due.due("14: all alike: 7 becomes 7", c.follow(0, 7, 0), 7);
        Due.due("14: not sure", c.follow(0, 7, 1), 0);
        c.keep();
        Due.add(c, Due.on(0, 8, 0, 0, 0));
        Due.due("15: nine ahead", c.sum(0), Due.NO);
        Due.due("16: nine ahead", c.rules(0), Due.NO);
        Due.due("14: nine ahead", c.follow(0, 0, 0), Due.NO);
        Due.due("14: NO ahead of NONE", c.follow(0, 11, 0), Due.NO);
        Due.due("14: BAD ahead of NO", c.follow(0, 12, 0), Due.BAD);
        Due.due("13: like is not NO", c.like(0, 8, 0), 6);
        Due.due("15: the other midnight", c.sum(1), 0);
        c.back();
        Due.add(c, Due.on(1, 8, 0, 0, 0));
        Due.due("15: nine behind", c.sum(0), Due.NO);
        Due.due("15: nine ahead of none", c.sum(1), Due.NO);
    }

    private static void rules() {
        // 10 becomes 1, 1 becomes 4: both by 3.
        CallSigns c = Due.with(Due.on(0, 10, 0, 0, 0), Due.on(0, 1, 1, 1, 20), Due.on(1, 1, 2, 2, 1), Due.on(1, 4, 3, 3, 21));
        Due.due("16: by 3", c.rules(0), 8);
        Due.add(c, Due.on(0, 5, 4, 4, 40), Due.on(1, 5, 5, 5, 41));
        Due.due("16: 5 stays 5: none is left", c.rules(0), 0);
        Due.due("16: nothing is sure", c.rules(5), 4095);
        CallSigns d = Due.with(Due.on(0, 5, 0, 0, 0), Due.on(1, 5, 0, 0, 0));
        Due.due("16: by 0", d.rules(0), 1);
        Due.due("16: 0 becomes 5", Due.with(Due.on(0, 0, 0, 0, 0), Due.on(1, 5, 0, 0, 0)).rules(0), 32);
        CallSigns e = Due.with(Due.on(3, 5, 0, 0, 0), Due.on(4, 4, 0, 0, 0));
        Due.due("16: by 11", e.rules(3), 1 << 11);
    }

    private static void trace() {
        CallSigns c = Due.with(Due.on(0, 3, 0, 0, 0), Due.on(1, 8, 1, 1, 1), Due.on(2, 2, 2, 2, 2), Due.on(2, 9, 2, 7, 90));
        Due.due("17: two midnights", c.trace(2, 2), 3);
        Due.due("17: one midnight", c.trace(1, 8), 3);
        Due.due("17: none", c.trace(0, 3), 3);
        Due.due("17: does not send", c.trace(0, 8), Due.NONE);
        Due.due("17: does not send", c.trace(1, 3), Due.NONE);
        Due.due("17: none becomes it", c.trace(2, 9), Due.NONE);
        Due.due("17: nobody sends", c.trace(19, 2), Due.NONE);
        Due.add(c, Due.on(4, 2, 2, 2, 2));
        Due.due("17: a day without calls", c.trace(4, 2), Due.NONE);
    }

    private static void traceNo() {
        CallSigns c = Due.with(Due.on(1, 0, 23, 7, 70), Due.on(2, 0, 23, 7, 70), Due.on(2, 5, 5, 5, 50), Due.on(3, 5, 5, 5, 50));
        for (int name = 1; name <= 9; name++) Due.add(c, Due.on(0, name, 0, 0, 0));
        Due.due("17: nine send on day 0", c.trace(2, 0), Due.NO);
        Due.due("17: the way ends ahead of the NO", c.trace(3, 5), Due.NONE);
        Due.due("17: none becomes it", c.trace(2, 5), Due.NONE);
        Due.due("17: does not send", c.trace(1, 5), Due.NONE);
        Due.due("17: NO", c.trace(1, 0), Due.NO);
        Due.due("17: on day 0 no midnight is crossed", c.trace(0, 9), 9);
        Due.due("17: on day 0", c.trace(0, 0), Due.NONE);
        Due.due("18: a NO on the way of one", c.held(2, 0), Due.NO);
        Due.due("18: a NO on the way of one", c.held(1, 1), Due.NO);
        Due.due("18: its way ends earlier", c.held(3, 0), 0);
        Due.due("18: day 0", c.held(0, 0), 0);
        Due.take(c, "p0,1;p1,2;p2,0;");
        Due.due("18: day 0, two of nine are told", c.held(0, 0), 2);
        Due.due("18: day 0, both right", c.held(0, 1), 2);
        Due.due("18: still NO", c.held(2, 1), Due.NO);
    }

    private static void held() {
        // 0 becomes 3, 1 becomes 4, 2 becomes 6, 7 is new.
        CallSigns c = Due.with(Due.on(0, 0, 0, 0, 0), Due.on(0, 1, 1, 1, 10), Due.on(0, 2, 2, 2, 20),
                Due.on(1, 3, 3, 3, 0), Due.on(1, 4, 4, 4, 10), Due.on(1, 6, 5, 5, 20), Due.on(1, 7, 6, 6, 90));
        Due.due("18: without a book", c.held(1, 0), 0);
        Due.due("18: without a book", c.held(1, 1), 0);
        // By the book 2 becomes 5, and 6 is another post.
        Due.take(c, "p0,0;p1,1;p2,2;p3,3;p4,4;k3,1;");
        Due.due("18: all three have posts", c.held(1, 0), 3);
        Due.due("18: two are right", c.held(1, 1), 2);
        Due.take(c, "p0,0;p1,1;p2,2;k3,1;");
        Due.due("18: 6 has no post", c.held(1, 0), 2);
        Due.due("18: two are right", c.held(1, 1), 2);
        Due.take(c, "p0,0;p2,2;p3,3;k3,1;");
        Due.due("18: 1 had no post", c.held(1, 0), 2);
        Due.due("18: one is right", c.held(1, 1), 1);
        Due.take(c, "p0,0;p2,3;");
        Due.due("18: on day 0 each is traced to itself", c.held(0, 0), 1);
        Due.add(c, Due.on(1, 0, 7, 7, 1));
        Due.due("18: 0 now goes on as 0", c.follow(0, 0, 0), 0);
        Due.due("18: NAME 0 counts, too", c.held(1, 1), 1);
        Due.due("18: nobody sends", c.held(5, 0), 0);
    }
}
