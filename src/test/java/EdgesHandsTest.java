/** Promises 9 to 18 at their edges; each test begins with the words that it holds the class to. */
public final class EdgesHandsTest {
    private EdgesHandsTest() { }

    public static void main(String[] args) {
        apart();
        apartForAll();
        orLessApart();
        callsBetween();
        lowestCall();
        howManyHands();
        noFarther();
        allPairs();
        daysOfLike();
        likeOfEach();
        handsOfHighCalls();
        doesNotSend();
        moreThanEight();
        pairsAboveZero();
        greatestSum();
        lowerOne();
        sure();
        followedByNone();
        sums();
        rulesLeft();
        midnightByMidnight();
        firstOnTheWayBack();
        held();
        heldNo();
        Due.end("EdgesHandsTest", 9, 18);
    }

    private static void apart() {
        Due.says(9, "(0 to 99; 3 at first)");
        CallSigns c = new CallSigns();
        Due.due("at first", c.apart(0), 3);
        for (int t = 1; t <= 99; t++) Due.due("to " + t, c.apart(t), t - 1);
        Due.due("100", c.apart(100), Due.BAD);
        Due.due("-1", c.apart(-1), Due.BAD);
        Due.due("still 99", c.apart(99), 99);
    }

    private static void apartForAll() {
        Due.says(9, "T: what it was. BAD.");
        // Nothing but PAUSES 10 apart is alike from DAY to DAY; each object is asked once.
        for (int t = 9; t <= 10; t++) {
            boolean one = t == 10;
            Due.due("hand with T " + t, pausesTenApart(t).hand(1), one ? 0 : 1);
            Due.due("hands with T " + t, pausesTenApart(t).hands(), one ? 1 : 2);
            Due.due("like with T " + t, pausesTenApart(t).like(0, 3, 4), one ? 3 : 0);
            Due.due("follow with T " + t, pausesTenApart(t).follow(0, 3, 0), one ? 4 : Due.NONE);
            Due.due("sum with T " + t, pausesTenApart(t).sum(0), one ? 3 : 0);
            Due.due("rules with T " + t, pausesTenApart(t).rules(0), one ? 2 : 4095);
            Due.due("trace with T " + t, pausesTenApart(t).trace(1, 4), one ? 3 : Due.NONE);
            Due.due("held with T " + t, pausesTenApart(t).held(1, 0), one ? 1 : 0);
            Due.due("lacks with T " + t, pausesTenApart(t).lacks(3, 0, 1), one ? 11 : 3);
            Due.due("show with T " + t, pausesTenApart(t).show(0, 1), one ? 8 | 16 : 0);
            Due.due("odds with T " + t, pausesTenApart(t).odds(0, 1, 0), 1);
        }
    }

    private static CallSigns pausesTenApart(int t) {
        CallSigns c = Due.with(Due.on(0, 3, 0, 0, 89), Due.on(1, 4, 1, 1, 99));
        Due.take(c, "p3,3;p4,4;");
        c.apart(t);
        return c;
    }

    /** A CALL of which the PAUSE alone matters. */
    private static int[] pause(int pause) {
        return Due.row(0, 1, 0, 1, 0, pause);
    }

    private static void orLessApart() {
        Due.says(10, "two CALLS are by one HAND, if their PAUSES are T or less apart");
        for (int t = 0; t <= 99; t++) {
            for (int gap = 0; gap <= 99; gap++) {
                CallSigns c = Due.with(pause(gap), pause(0));
                c.apart(t);
                Due.due(gap + " apart with T " + t, c.hand(1), gap <= t ? 0 : 1);
            }
        }
        Due.due("3 apart at first", Due.with(pause(99), pause(96)).hand(1), 0);
        Due.due("4 apart at first", Due.with(pause(99), pause(95)).hand(1), 1);
    }

    private static void callsBetween() {
        Due.says(10, "or CALLS between lead from the one to the other so");
        CallSigns c = Due.with(pause(0), pause(99));
        for (int pause = 96; pause >= 6; pause -= 3) Due.add(c, pause(pause));
        Due.due("6 is the last so far", c.hand(1), 1);
        Due.due("two hands", c.hands(), 2);
        Due.add(c, pause(3));
        for (int call = 0; call < 34; call++) Due.due("all lead to 0: " + call, c.hand(call), 0);
        Due.due("one hand", c.hands(), 1);
        c.apart(2);
        for (int call = 0; call < 34; call++) Due.due("none leads farther: " + call, c.hand(call), call);
        Due.due("34 hands", c.hands(), 34);
    }

    private static void lowestCall() {
        Due.says(10, "A HAND is told by its lowest CALL.");
        for (int[] pauses : new int[][] {{10, 20, 13}, {20, 10, 13}, {13, 20, 10}, {20, 13, 10}}) {
            CallSigns c = Due.with(pause(90), pause(pauses[0]), pause(91), pause(pauses[1]), pause(pauses[2]), pause(16));
            c.apart(4);
            for (int call : new int[] {1, 3, 4, 5}) Due.due("told by CALL 1: " + call, c.hand(call), 1);
            Due.due("the other one by CALL 0", c.hand(2), 0);
        }
        CallSigns c = new CallSigns();
        for (int i = 0; i < 59; i++) Due.add(c, pause(i));
        Due.add(c, pause(99));
        Due.due("CALL 59 alone", c.hand(59), 59);
        Due.due("CALL 58", c.hand(58), 0);
        Due.due("CALL 60 is none", c.hand(60), Due.BAD);
    }

    private static void howManyHands() {
        Due.says(11, "How many HANDS there are.");
        CallSigns c = new CallSigns();
        Due.due("none", c.hands(), 0);
        c.apart(0);
        for (int i = 0; i < 60; i++) {
            Due.add(c, pause(99 - i));
            Due.due("one more", c.hands(), i + 1);
        }
        c.apart(1);
        Due.due("all one", c.hands(), 1);
        CallSigns same = Due.with(pause(0), pause(0), pause(99), pause(99), pause(99));
        same.apart(0);
        Due.due("two pauses", same.hands(), 2);
        same.apart(98);
        Due.due("98 is too little", same.hands(), 2);
        same.apart(99);
        Due.due("99 is enough", same.hands(), 1);
    }

    private static void noFarther() {
        Due.says(12, "of all pairs of CALLS how many have PAUSES no farther apart");
        // Apart: 0 1: 99, 0 2: 0, 0 3: 1, 1 2: 99, 1 3: 98, 2 3: 1.
        CallSigns c = Due.with(pause(0), pause(99), pause(0), pause(1));
        Due.due("0 apart", c.odds(0, 2, 0), 1);
        Due.due("1 apart", c.odds(3, 0, 0), 3);
        Due.due("98 apart", c.odds(3, 1, 0), 4);
        Due.due("99 apart", c.odds(1, 0, 0), 6);
        Due.due("99 apart, the other way", c.odds(0, 1, 0), 6);
    }

    private static void allPairs() {
        Due.says(12, "how many (what = 0), of how many (1). BAD (alike numbers, too).");
        CallSigns c = Due.with(pause(5));
        Due.due("one CALL makes no pair", c.odds(0, 0, 1), Due.BAD);
        Due.due("there is no other one", c.odds(0, 1, 1), Due.BAD);
        int pairs = 0;
        for (int i = 1; i < 60; i++) {
            Due.add(c, pause(5));
            pairs += i;
            Due.due("of pairs", c.odds(i, 0, 1), pairs);
            Due.due("as close", c.odds(0, i, 0), pairs);
        }
        Due.due("alike", c.odds(59, 59, 0), Due.BAD);
        Due.due("behind the last", c.odds(59, 60, 0), Due.BAD);
    }

    private static void daysOfLike() {
        Due.says(13, "LIKE of a NAME that SENDS on a DAY (0 to 18) and one that SENDS on the next");
        for (int day = 0; day <= 18; day++) {
            CallSigns c = Due.with(Due.on(day, 0, 23, 7, 0), Due.on(day + 1, 11, 23, 7, 0));
            Due.due("from " + day, c.like(day, 0, 11), 6);
            if (day > 0) Due.due("ahead of it", c.like(day - 1, 0, 11), Due.NONE);
            if (day < 18) Due.due("behind it", c.like(day + 1, 0, 11), Due.NONE);
            Due.due("not the other way", c.like(day, 11, 0), Due.NONE);
        }
        CallSigns c = Due.with(Due.on(18, 4, 0, 0, 0), Due.on(19, 4, 0, 0, 0));
        Due.due("from 18, with itself", c.like(18, 4, 4), 6);
        Due.due("from 19", c.like(19, 4, 4), Due.BAD);
        CallSigns far = Due.with(Due.on(3, 0, 0, 0, 0), Due.on(5, 0, 0, 0, 0));
        Due.due("two days later", far.like(3, 0, 0), Due.NONE);
    }

    private static void likeOfEach() {
        Due.says(13, "3 for each HAND with which both send, 2 for each WAVE, 1 for each hour of the day (on those two DAYS)");
        CallSigns c = new CallSigns();
        for (int hour = 0; hour < 24; hour++) Due.add(c, Due.on(0, 1, hour, 0, 0), Due.on(1, 2, hour, 7, 99));
        Due.due("24 hours", c.like(0, 1, 2), 24);
        Due.add(c, Due.on(0, 3, 1, 5, 50), Due.on(1, 4, 1, 6, 70), Due.on(2, 4, 2, 5, 50), Due.on(2, 3, 2, 6, 70));
        Due.due("one hour; what is alike on other days does not count", c.like(0, 3, 4), 1);
        CallSigns waves = new CallSigns();
        for (int wave = 0; wave < 8; wave++) Due.add(waves, Due.on(0, 1, 0, wave, 0), Due.on(1, 2, 1, wave, 99));
        Due.due("8 waves", waves.like(0, 1, 2), 16);
        CallSigns hands = new CallSigns();
        hands.apart(0);
        for (int i = 0; i < 30; i++) Due.add(hands, Due.on(0, 1, 0, 0, i), Due.on(1, 2, 1, 1, i));
        Due.due("30 hands", hands.like(0, 1, 2), 90);
        hands.apart(1);
        Due.due("one hand", hands.like(0, 1, 2), 3);
        CallSigns each = new CallSigns();
        for (int i = 0; i < 5; i++) Due.add(each, Due.on(0, 1, 9, 3, 40), Due.on(1, 2, 9, 3, 42));
        Due.due("each once", each.like(0, 1, 2), 6);
        Due.due("nothing alike is 0", Due.with(Due.on(0, 1, 0, 0, 0), Due.on(1, 2, 1, 1, 4)).like(0, 1, 2), 0);
    }

    private static void handsOfHighCalls() {
        Due.says(13, "3 for each HAND with which both send");
        // HAND h on DAY 0 and another HAND on DAY 1, for CALLS up to the last one; T 0 keeps all apart.
        for (int other = 1; other < 59; other++) {
            CallSigns c = new CallSigns();
            c.apart(0);
            for (int i = 0; i < 60; i++) {
                int day = i == 0 ? 0 : i == other ? 1 : i == 59 ? 2 : 9;
                Due.add(c, Due.on(day, 5, day, day == 9 ? 7 : day, i == 59 ? other : i));
            }
            Due.due("HANDS 0 and " + other, c.like(0, 5, 5), 0);
            Due.due("HAND " + other + " twice", c.like(1, 5, 5), 3);
        }
    }

    private static void doesNotSend() {
        Due.says(13, "NONE: one of them does not SEND; BAD.");
        CallSigns c = Due.with(Due.row(1, 2, 0, 1, 0, 0), Due.row(3, 4, 24, 1, 1, 50));
        Due.due("both send", c.like(0, 1, 3), 1);
        Due.due("the first does not", c.like(0, 2, 3), Due.NONE);
        Due.due("the other does not", c.like(0, 1, 4), Due.NONE);
        Due.due("both do not", c.like(0, 2, 4), Due.NONE);
        Due.due("the first sends on the next only", c.like(0, 3, 3), Due.NONE);
        Due.due("the other sends on the day only", c.like(0, 1, 1), Due.NONE);
    }

    /** So many SEND on DAY 0 and so many on DAY 1, all alike. */
    private static CallSigns senders(int today, int next) {
        CallSigns c = new CallSigns();
        for (int name = 0; name < today; name++) Due.add(c, Due.on(0, name, 0, 0, 0));
        for (int name = 0; name < next; name++) Due.add(c, Due.on(1, name, 0, 0, 0));
        return c;
    }

    private static void moreThanEight() {
        Due.says(14, "(NO: more than 8 SEND on either DAY.)");
        for (int today = 0; today <= 12; today++) {
            for (int next = 0; next <= 12; next++) {
                CallSigns c = senders(today, next);
                boolean no = today > 8 || next > 8;
                String what = today + " and " + next;
                Due.due(what + ", sum", c.sum(0), no ? Due.NO : 6 * Math.min(today, next));
                for (int name = 0; name < 12; name++) {
                    int due = no ? Due.NO : name < Math.min(today, next) ? name : Due.NONE;
                    Due.due(what + ", follow " + name, c.follow(0, name, 0), due);
                    int sure = no || due == Due.NONE ? due : today == 1 && next == 1 ? 1 : 0;
                    Due.due(what + ", sure " + name, c.follow(0, name, 1), sure);
                }
                Due.due(what + ", rules", c.rules(0), no ? Due.NO : today == 1 && next == 1 ? 1 : 4095);
            }
        }
        CallSigns c = senders(8, 8);
        Due.add(c, Due.row(0, 11, 0, 1, 0, 0), Due.row(0, 11, 24, 1, 0, 0));
        Due.due("who is called does not count", c.sum(0), 48);
    }

    private static void pairsAboveZero() {
        Due.says(14, "each with one or none, none with two, pairs with LIKE above 0 alone");
        CallSigns c = Due.with(Due.on(0, 3, 0, 0, 0), Due.on(1, 4, 1, 1, 4));
        Due.due("LIKE 0", c.follow(0, 3, 0), Due.NONE);
        Due.due("LIKE 0, sure", c.follow(0, 3, 1), Due.NONE);
        Due.add(c, Due.on(1, 5, 0, 2, 50));
        Due.due("LIKE 1", c.follow(0, 3, 0), 5);
        Due.due("LIKE 1, sure", c.follow(0, 3, 1), 1);
        // The lowest has nobody, the next one has.
        CallSigns none = Due.with(Due.on(0, 0, 0, 0, 0), Due.on(0, 1, 1, 1, 30), Due.on(1, 5, 2, 1, 60));
        Due.due("nobody for 0", none.follow(0, 0, 0), Due.NONE);
        Due.due("5 for 1", none.follow(0, 1, 0), 5);
        Due.due("5 for 1, sure", none.follow(0, 1, 1), 1);
        Due.due("the sum of 1 alone", none.sum(0), 2);
        Due.due("the rules of 1 alone", none.rules(0), 16);
        CallSigns two = Due.with(Due.on(0, 3, 0, 0, 0), Due.on(0, 7, 1, 0, 50), Due.on(1, 9, 2, 0, 90));
        Due.due("one of two", two.follow(0, 3, 0), 9);
        Due.due("none for the other", two.follow(0, 7, 0), Due.NONE);
        Due.due("the sum of one", two.sum(0), 2);
    }

    private static void greatestSum() {
        Due.says(14, "of the greatest sum of LIKE");
        // 0 to 0 is 3 alone; 0 to 1 and 1 to 0 are 2 each.
        CallSigns c = Due.with(Due.on(0, 0, 0, 0, 0), Due.on(0, 1, 1, 1, 50), Due.on(1, 0, 2, 1, 0), Due.on(1, 1, 3, 0, 99));
        Due.due("LIKE 3", c.like(0, 0, 0), 3);
        Due.due("0 becomes 1", c.follow(0, 0, 0), 1);
        Due.due("1 becomes 0", c.follow(0, 1, 0), 0);
        Due.due("4 in all", c.sum(0), 4);
        // Eight by eight, each with its own: the last of the DAY with the first of the next, and so on.
        CallSigns eight = new CallSigns();
        for (int i = 0; i < 8; i++) Due.add(eight, Due.on(0, i, 0, 0, 10 * i), Due.on(1, 11 - i, 1, 1, 10 * i));
        for (int i = 0; i < 8; i++) {
            Due.due("eight: " + i, eight.follow(0, i, 0), 11 - i);
            Due.due("eight, sure: " + i, eight.follow(0, i, 1), 1);
        }
        Due.due("eight hands", eight.sum(0), 24);
    }

    private static void lowerOne() {
        Due.says(14, "of several that in which the lowest NAME of the DAY has the lower one (none counts as 12), then the next");
        CallSigns c = Due.with(Due.on(0, 5, 0, 0, 0), Due.on(0, 8, 1, 0, 30), Due.on(1, 11, 2, 0, 60));
        Due.due("11 is lower than none", c.follow(0, 5, 0), 11);
        Due.due("so the next has none", c.follow(0, 8, 0), Due.NONE);
        // 0 to 1 is 4, 0 to 2 is 2, 5 to 1 is 2: 4 with 0 at 1, or 4 with 0 at 2 and 5 at 1.
        CallSigns d = Due.with(Due.on(0, 0, 0, 0, 0), Due.on(0, 0, 0, 1, 0), Due.on(0, 0, 0, 3, 0), Due.on(0, 5, 1, 2, 30),
                Due.on(1, 1, 2, 0, 60), Due.on(1, 1, 2, 1, 60), Due.on(1, 1, 2, 2, 60), Due.on(1, 2, 3, 3, 90));
        Due.due("0 has the lower one", d.follow(0, 0, 0), 1);
        Due.due("5 has none by it", d.follow(0, 5, 0), Due.NONE);
        Due.due("0 is not sure", d.follow(0, 0, 1), 0);
        Due.due("4 in all", d.sum(0), 4);
        CallSigns e = oneBoundTwoOpen();
        Due.due("0", e.follow(0, 0, 0), 6);
        Due.due("then the next has the lower one", e.follow(0, 1, 0), 3);
        Due.due("and the last the other", e.follow(0, 2, 0), 4);
    }

    /** 0 is bound to 6 by its HAND; 1 and 2 may have 3 and 4 either way. */
    private static CallSigns oneBoundTwoOpen() {
        return Due.with(Due.on(0, 0, 0, 0, 0), Due.on(0, 1, 1, 1, 20), Due.on(0, 2, 2, 1, 40),
                Due.on(1, 6, 3, 2, 0), Due.on(1, 3, 4, 1, 60), Due.on(1, 4, 5, 1, 80));
    }

    private static void sure() {
        Due.says(14, "SURE is a pair that is in each pairing of that sum.");
        CallSigns c = oneBoundTwoOpen();
        Due.due("0 is", c.follow(0, 0, 1), 1);
        Due.due("1 is not", c.follow(0, 1, 1), 0);
        Due.due("2 is not", c.follow(0, 2, 1), 0);
        Due.add(c, Due.on(0, 1, 4, 1, 20));
        Due.due("one more hour decides", c.follow(0, 1, 1), 1);
        Due.due("for both", c.follow(0, 2, 1), 1);
        // Paired in each pairing, but not with the same one.
        CallSigns d = Due.with(Due.on(0, 9, 0, 0, 0), Due.on(1, 0, 1, 0, 50), Due.on(1, 11, 2, 0, 99));
        Due.due("0 or 11", d.follow(0, 9, 1), 0);
        // The only one for it, but another may have it in its place.
        CallSigns e = Due.with(Due.on(0, 2, 0, 0, 0), Due.on(0, 9, 1, 0, 30), Due.on(1, 0, 2, 0, 60));
        Due.due("0 or none", e.follow(0, 2, 1), 0);
    }

    private static void followedByNone() {
        Due.says(14, "NONE: none, it does not SEND; NO; BAD.");
        CallSigns c = Due.with(Due.row(3, 4, 0, 1, 0, 0), Due.row(4, 3, 24, 1, 0, 0), Due.row(5, 6, 456, 1, 0, 0));
        for (int what = 0; what <= 1; what++) {
            Due.due("called, but does not send", c.follow(0, 4, what), Due.NONE);
            Due.due("the day behind has no calls", c.follow(1, 4, what), Due.NONE);
            Due.due("the day has no calls", c.follow(18, 5, what), Due.NONE);
            Due.due("neither day has calls", c.follow(9, 5, what), Due.NONE);
        }
        Due.due("it becomes 4", c.follow(0, 3, 0), 4);
    }

    private static void sums() {
        Due.says(15, "The sum of LIKE. NO; BAD.");
        CallSigns c = new CallSigns();
        for (int day = 0; day <= 18; day++) Due.due("none on day " + day, c.sum(day), 0);
        Due.due("day 19", c.sum(19), Due.BAD);
        Due.due("day -1", c.sum(-1), Due.BAD);
        for (int day = 0; day <= 18; day++) {
            CallSigns d = Due.with(Due.on(day, 1, 0, 0, 0), Due.on(day + 1, 2, 0, 0, 0));
            Due.due("from day " + day, d.sum(day), 6);
            if (day > 0) Due.due("none to day " + day, d.sum(day - 1), 0);
            if (day < 18) Due.due("none from the next", d.sum(day + 1), 0);
        }
        // One pair as great as it can be: 30 HANDS, 8 WAVES, 24 hours.
        CallSigns most = new CallSigns();
        most.apart(0);
        for (int i = 0; i < 30; i++) Due.add(most, Due.on(0, 1, i % 24, i % 8, i), Due.on(1, 2, i % 24, i % 8, i));
        Due.due("90, 16 and 24", most.sum(0), 130);
    }

    private static void rulesLeft() {
        Due.says(16, "RULES LEFT of a midnight: all K by which each SURE pair goes on, as bits.");
        for (int from = 0; from < 12; from++) {
            for (int to = 0; to < 12; to++) {
                CallSigns c = Due.with(Due.on(7, from, 0, 0, 0), Due.on(8, to, 0, 0, 0));
                Due.due(from + " becomes " + to, c.rules(7), 1 << (to >= from ? to - from : to - from + 12));
                Due.due("no pair at the next midnight", c.rules(8), 4095);
            }
        }
        CallSigns c = Due.with(Due.on(0, 11, 0, 0, 0), Due.on(1, 0, 1, 1, 0), Due.on(0, 0, 2, 2, 50), Due.on(1, 1, 3, 3, 50));
        Due.due("11 to 0 and 0 to 1: both by 1", c.rules(0), 2);
        Due.add(c, Due.on(0, 5, 4, 4, 90), Due.on(1, 7, 5, 5, 90));
        Due.due("5 to 7: none is left", c.rules(0), 0);
        Due.due("who has nobody for sure is no pair", Due.with(Due.on(0, 3, 0, 0, 0), Due.on(1, 5, 1, 1, 50)).rules(0), 4095);
        CallSigns d = Due.with(Due.on(0, 1, 0, 0, 0), Due.on(1, 4, 1, 1, 0), Due.on(0, 5, 2, 2, 30), Due.on(1, 5, 3, 2, 60),
                Due.on(1, 6, 4, 2, 90));
        Due.due("5 to 5 is not SURE, so only 1 to 4 counts", d.rules(0), 8);
        Due.due("day 19", d.rules(19), Due.BAD);
        Due.due("day -1", d.rules(-1), Due.BAD);
    }

    private static void midnightByMidnight() {
        Due.says(17, "TRACED from a DAY back to DAY 0, midnight by midnight, is a NAME by pairings FOLLOWED");
        CallSigns c = new CallSigns();
        for (int day = 0; day < 20; day++) Due.add(c, Due.on(day, (3 + 5 * day) % 12, 0, 0, 0), Due.on(day, (4 + 5 * day) % 12, 1, 1, 50));
        for (int day = 0; day < 20; day++) {
            Due.due("from day " + day, c.trace(day, (3 + 5 * day) % 12), 3);
            Due.due("the other one from day " + day, c.trace(day, (4 + 5 * day) % 12), 4);
            Due.due("one that does not send on day " + day, c.trace(day, (5 + 5 * day) % 12), Due.NONE);
        }
        Due.due("day 20", c.trace(20, 0), Due.BAD);
    }

    /** A chain of one NAME on each of these DAYS: NAME 0 on all of them. */
    private static CallSigns chain(int... days) {
        CallSigns c = new CallSigns();
        for (int day : days) Due.add(c, Due.on(day, 0, 0, 0, 0));
        return c;
    }

    private static void firstOnTheWayBack() {
        Due.says(17, "(NONE: it does not SEND, or that midnight none becomes it; NO: that pairing is NO; what comes first on the way back)");
        CallSigns c = chain(1, 2, 3);
        Due.due("nobody on day 0", c.trace(3, 0), Due.NONE);
        for (int name = 1; name <= 8; name++) Due.add(c, Due.on(2, name, name, name % 8, 10 * name));
        Due.due("nine on day 2 come first", c.trace(3, 0), Due.NO);
        Due.due("on day 2, too", c.trace(2, 0), Due.NO);
        Due.due("on day 1 none becomes it", c.trace(1, 0), Due.NONE);
        Due.due("who does not send on day 2", c.trace(2, 9), Due.NONE);
        Due.due("who does not send on day 3", c.trace(3, 9), Due.NONE);
        CallSigns d = chain(0, 1, 3);
        for (int name = 1; name <= 8; name++) Due.add(d, Due.on(0, name, name, name % 8, 10 * name));
        Due.due("day 2 without calls comes first", d.trace(3, 0), Due.NONE);
        Due.due("nine on day 0", d.trace(1, 0), Due.NO);
        for (int name = 0; name <= 8; name++) Due.due("on day 0 each is itself", d.trace(0, name), name);
        Due.due("but not who does not send", d.trace(0, 9), Due.NONE);
        Due.add(d, Due.on(1, 9, 23, 7, 99));
        Due.due("none becomes 9, but the pairing is NO", d.trace(1, 9), Due.NO);
        CallSigns e = chain(0, 1);
        Due.add(e, Due.on(1, 9, 23, 7, 99));
        Due.due("none becomes 9", e.trace(1, 9), Due.NONE);
    }

    private static void held() {
        Due.says(18, "those that SEND on it, are TRACED to a NAME of DAY 0, and both have POSTS by the BOOK: how many, and of how many of them the POSTS are one");
        CallSigns c = new CallSigns();
        for (int day = 0; day < 20; day++) {
            Due.due("nobody sends, day " + day, c.held(day, 0), 0);
            Due.due("nobody is right, day " + day, c.held(day, 1), 0);
        }
        // 11 becomes 0 becomes 1; the BOOK says so for its first midnight only.
        c = Due.with(Due.on(0, 11, 0, 0, 0), Due.on(1, 0, 0, 0, 0), Due.on(2, 1, 0, 0, 0), Due.on(2, 6, 9, 7, 90));
        held(c, "", 0, 0, 0, 0, 0, 0);
        held(c, "p0,11;k1,1;", 1, 1, 1, 1, 1, 1);
        held(c, "p0,11;k1,1;k0,2;", 1, 1, 1, 1, 0, 0);
        held(c, "p0,11;p1,0;k1,1;k0,2;", 1, 1, 1, 1, 1, 0);
        held(c, "p1,0;p2,1;", 0, 0, 0, 0, 0, 0);
        held(c, "p0,11;p1,0;p2,1;p6,6;", 1, 1, 1, 0, 1, 0);
        // 6 is a POST on DAY 2, but it is not TRACED.
        held(c, "p6,6;", 0, 0, 0, 0, 0, 0);
    }

    /** How many and how many right ones on DAYS 0, 1, 2. */
    private static void held(CallSigns c, String book, int... due) {
        Due.holds(book + " is taken", Due.take(c, book) >= 0);
        for (int i = 0; i < due.length; i++) Due.due(book + ": held(" + i / 2 + ", " + i % 2 + ")", c.held(i / 2, i % 2), due[i]);
    }

    private static void heldNo() {
        Due.says(18, "NO: a NO on the way of one; BAD.");
        for (int today = 7; today <= 10; today++) {
            CallSigns c = new CallSigns();
            for (int name = 0; name < today; name++) Due.add(c, Due.on(0, name, name, name % 8, 9 * name));
            Due.add(c, Due.on(1, 0, 0, 0, 0), Due.on(2, 5, 0, 0, 0), Due.on(2, 6, 7, 7, 99));
            Due.take(c, "p0,0;");
            for (int what = 0; what <= 1; what++) {
                Due.due(today + " on day 0: no midnight is on the way", c.held(0, what), 1);
                Due.due(today + " on day 0: from day 1", c.held(1, what), today > 8 ? Due.NO : 1);
                Due.due(today + " on day 0: from day 2, though 5 has no POST", c.held(2, what), today > 8 ? Due.NO : 0);
                Due.due("nobody sends on day 3", c.held(3, what), 0);
            }
        }
        // The way of the one that SENDS on DAY 3 ends ahead of the NO.
        CallSigns c = chain(1, 3);
        for (int name = 0; name <= 8; name++) Due.add(c, Due.on(0, name, 0, 0, 0));
        Due.due("the NO is not on its way", c.held(3, 0), 0);
        Due.due("but on this one's", c.held(1, 0), Due.NO);
    }
}
