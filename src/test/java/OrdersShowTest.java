/** Promises 19 to 24: within, fate, sign, tree, lacks, show. */
public final class OrdersShowTest {
    private OrdersShowTest() { }

    public static void main(String[] args) {
        within();
        answered();
        passedOn();
        sign();
        tree();
        treeTies();
        treeSizes();
        treeWithoutRings();
        lacks();
        show();
        Due.end("OrdersShowTest");
    }

    private static void within() {
        CallSigns c = new CallSigns();
        Due.due("19: at first", c.within(23), 2);
        Due.due("19: BAD", c.within(24), Due.BAD);
        Due.due("19: unchanged", c.within(1), 23);
    }

    private static void answered() {
        CallSigns c = Due.with(Due.at(0, 1, 10, 5), Due.at(1, 0, 12, 7));
        Due.due("20: two hours later", c.fate(0), 1);
        Due.due("20: the answer is not answered", c.fate(1), 0);
        c.within(1);
        Due.due("20: too late", c.fate(0), 0);
        c.within(2);
        Due.due("20: three hours later", Due.with(Due.at(0, 1, 10, 5), Due.at(1, 0, 13, 7)).fate(0), 0);
        Due.due("20: earlier", Due.with(Due.at(0, 1, 10, 5), Due.at(1, 0, 9, 7)).fate(0), 0);
        CallSigns same = Due.with(Due.at(0, 1, 10, 5), Due.at(1, 0, 10, 7));
        Due.due("20: in the same hour, higher", same.fate(0), 1);
        Due.due("20: in the same hour, lower", same.fate(1), 0);
        Due.due("20: later with a lower number", Due.with(Due.at(1, 0, 11, 7), Due.at(0, 1, 10, 5)).fate(1), 1);
        Due.due("20: over midnight", Due.with(Due.at(0, 1, 23, 5), Due.at(1, 0, 24, 7)).fate(0), 1);
        Due.due("20: once more by the same one", Due.with(Due.at(0, 1, 10, 5), Due.at(0, 1, 11, 5)).fate(0), 0);
        Due.due("20: by another one", Due.with(Due.at(0, 1, 10, 5), Due.at(2, 0, 11, 5)).fate(0), 0);
        c.within(23);
        Due.add(c, Due.at(3, 4, 100, 1), Due.at(4, 3, 123, 1), Due.at(5, 6, 200, 1), Due.at(6, 5, 224, 1));
        Due.due("20: 23 hours", c.fate(2), 1);
        Due.due("20: 24 hours", c.fate(4), 0);
    }

    private static void passedOn() {
        CallSigns c = Due.with(Due.at(0, 1, 10, 5), Due.at(1, 2, 12, 5));
        Due.due("20: passed on", c.fate(0), 2);
        Due.due("20: the end of it", c.fate(1), 0);
        Due.due("20: other minutes", Due.with(Due.at(0, 1, 10, 5), Due.at(1, 2, 12, 6)).fate(0), 0);
        Due.due("20: too late", Due.with(Due.at(0, 1, 10, 5), Due.at(1, 2, 13, 5)).fate(0), 0);
        Due.due("20: same hour, higher", Due.with(Due.at(0, 1, 10, 5), Due.at(1, 2, 10, 5)).fate(0), 2);
        Due.due("20: same hour, lower", Due.with(Due.at(1, 2, 10, 5), Due.at(0, 1, 10, 5)).fate(1), 0);
        Due.due("20: back with as many minutes", Due.with(Due.at(0, 1, 10, 5), Due.at(1, 0, 11, 5)).fate(0), 1);
        Due.due("20: both", Due.with(Due.at(0, 1, 10, 5), Due.at(1, 2, 11, 5), Due.at(1, 0, 11, 9)).fate(0), 3);
        Due.due("20: another one passes", Due.with(Due.at(0, 1, 10, 5), Due.at(3, 2, 11, 5)).fate(0), 0);
    }

    private static void sign() {
        CallSigns c = Due.with(Due.at(0, 1, 10, 5), Due.at(1, 0, 11, 1), Due.at(0, 1, 30, 7), Due.at(1, 2, 31, 7),
                Due.at(0, 1, 60, 9), Due.at(1, 0, 61, 1), Due.at(1, 3, 62, 9), Due.at(0, 1, 71, 4), Due.at(1, 0, 72, 4));
        Due.due("21: answered", c.sign(0, 1, 0, 0), 2);
        Due.due("21: passed on", c.sign(0, 1, 1, 1), 3);
        // On DAY 2 one that is both, and one whose answer is on the next DAY.
        Due.due("21: both", c.sign(0, 1, 2, 2), 7);
        Due.due("21: all", c.sign(0, 1, 0, 2), 12);
        Due.due("21: only what is on these days", c.sign(0, 1, 3, 19), 0);
        Due.due("21: 0 1 is called back within the hours", c.sign(1, 0, 0, 19), 0);
        Due.due("21: others", c.sign(2, 3, 0, 19), 0);
        Due.due("21: with itself", c.sign(1, 1, 0, 19), Due.BAD);
        Due.due("21: d above e", c.sign(0, 1, 2, 1), Due.BAD);
    }

    private static void tree() {
        // 5 is answered by 3 twice, 3 by 1 once, 1 by 9 once.
        CallSigns c = Due.with(Due.at(5, 3, 0, 1), Due.at(3, 5, 1, 2), Due.at(5, 3, 4, 1), Due.at(3, 5, 5, 2),
                Due.at(3, 1, 8, 1), Due.at(1, 3, 9, 2), Due.at(1, 9, 12, 1), Due.at(9, 1, 13, 2));
        Due.due("22: the root", c.tree(5, 0, 0, 0), Due.NONE);
        Due.due("22: the root's link", c.tree(5, 0, 0, 1), Due.NONE);
        Due.due("22: 3 below 5", c.tree(3, 0, 0, 0), 5);
        Due.due("22: 1 below 3", c.tree(1, 0, 0, 0), 3);
        Due.due("22: 9 below 1", c.tree(9, 0, 0, 0), 1);
        for (int name : new int[] {1, 3, 9}) Due.due("22: sure", c.tree(name, 0, 0, 1), 1);
        Due.due("22: sum", c.tree(5, 0, 0, 2), 8);
        Due.due("22: the name is not looked at", c.tree(-7, 0, 0, 2), 8);
        Due.due("22: the name is not looked at", c.tree(Integer.MAX_VALUE, 0, 0, 2), 8);
        Due.due("22: not in it", c.tree(0, 0, 0, 0), Due.NONE);
        Due.due("22: not in it", c.tree(0, 0, 0, 1), Due.NONE);
        Due.due("22: more days", c.tree(9, 0, 19, 0), 1);
        Due.due("22: other days", c.tree(9, 1, 19, 0), Due.NO);
        Due.due("22: d above e", c.tree(1, 1, 0, 2), Due.BAD);
        // One more without signs may stand anywhere; 5 is told below it rather than as the ROOT.
        Due.add(c, Due.at(7, 9, 14, 3));
        Due.due("22: 5 below 7", c.tree(5, 0, 0, 0), 7);
        Due.due("22: not sure", c.tree(5, 0, 0, 1), 0);
        Due.due("22: 7 is the root", c.tree(7, 0, 0, 0), Due.NONE);
        Due.due("22: still sure", c.tree(3, 0, 0, 1), 1);
    }

    private static void treeTies() {
        // Two names and no signs: the lower one below the higher one, or the other way round.
        CallSigns c = Due.with(Due.at(4, 2, 0, 1));
        Due.due("22: the lowest has the lower above it, the root counts as 12", c.tree(2, 0, 0, 0), 4);
        Due.due("22: so 4 is the root", c.tree(4, 0, 0, 0), Due.NONE);
        Due.due("22: not sure", c.tree(2, 0, 0, 1), 0);
        Due.due("22: sum 0", c.tree(2, 0, 0, 2), 0);
        // Each answers the other: 2 above 4 is 2, 4 above 2 is 2.
        CallSigns d = Due.with(Due.at(4, 2, 0, 1), Due.at(2, 4, 1, 2), Due.at(4, 2, 2, 1));
        Due.due("22: as good either way", d.tree(2, 0, 0, 0), 4);
        Due.due("22: as good either way", d.tree(2, 0, 0, 1), 0);
        Due.due("22: only one of both", d.tree(2, 0, 0, 2), 2);
        // 0 under 1 or 2 is alike, the lower one is told; that 3 is under 1 is sure.
        CallSigns e = Due.with(Due.at(1, 0, 0, 1), Due.at(0, 1, 1, 2), Due.at(2, 0, 4, 1), Due.at(0, 2, 5, 2), Due.at(1, 3, 8, 1), Due.at(3, 1, 9, 2));
        Due.due("22: the lower", e.tree(0, 0, 0, 0), 1);
        Due.due("22: open", e.tree(0, 0, 0, 1), 0);
        Due.due("22: sure", e.tree(3, 0, 0, 1), 1);
        Due.due("22: sure below", e.tree(3, 0, 0, 0), 1);
        Due.due("22: 1 below 2 brings nothing, but lets it be told", e.tree(1, 0, 0, 0), 2);
        Due.due("22: 2 is the root", e.tree(2, 0, 0, 0), Due.NONE);
        Due.due("22: sum", e.tree(0, 0, 0, 2), 4);
    }

    private static void treeSizes() {
        CallSigns c = new CallSigns();
        Due.due("22: none", c.tree(0, 0, 19, 2), Due.NO);
        Due.due("22: BAD ahead of NO", c.tree(12, 0, 19, 0), Due.BAD);
        for (int name = 1; name < 6; name++) {
            Due.add(c, Due.at(0, name, name, 1));
            Due.due("22: " + (name + 1) + " names", c.tree(0, 0, 19, 2), 0);
        }
        // All trees are as good: 0 below 1; 1 below 2, as below 0 would be a ring; and so on to the ROOT.
        Due.due("22: 0", c.tree(0, 0, 0, 0), 1);
        Due.due("22: 1", c.tree(1, 0, 0, 0), 2);
        Due.due("22: 2", c.tree(2, 0, 0, 0), 3);
        Due.due("22: 3", c.tree(3, 0, 0, 0), 4);
        Due.due("22: 4", c.tree(4, 0, 0, 0), 5);
        Due.due("22: 5", c.tree(5, 0, 0, 0), Due.NONE);
        Due.due("22: nothing sure", c.tree(3, 0, 0, 1), 0);
        Due.add(c, Due.at(0, 6, 30, 1));
        Due.due("22: seven", c.tree(0, 0, 1, 2), Due.NO);
        Due.due("22: NO ahead of NONE", c.tree(9, 0, 1, 0), Due.NO);
        Due.due("22: two of them", c.tree(0, 1, 1, 0), 6);
    }

    private static void treeWithoutRings() {
        // 1 above 2, 2 above 3, 3 above 1 bring 4, 4 and 2: the weakest link of the ring gives way.
        CallSigns c = Due.with(Due.at(1, 2, 0, 1), Due.at(2, 1, 1, 2), Due.at(1, 2, 10, 1), Due.at(2, 1, 11, 2),
                Due.at(2, 3, 20, 1), Due.at(3, 2, 21, 2), Due.at(2, 3, 30, 1), Due.at(3, 2, 31, 2), Due.at(3, 1, 40, 1), Due.at(1, 3, 41, 2));
        Due.due("22: no ring", c.tree(1, 0, 1, 0), Due.NONE);
        Due.due("22: 2 below 1", c.tree(2, 0, 1, 0), 1);
        Due.due("22: 3 below 2", c.tree(3, 0, 1, 0), 2);
        Due.due("22: sum", c.tree(3, 0, 1, 2), 8);
        Due.due("22: sure", c.tree(2, 0, 1, 1) + c.tree(3, 0, 1, 1), 2);
        // With another one above 1 (brings 2) it is the ROOT.
        Due.add(c, Due.at(9, 1, 45, 1), Due.at(1, 9, 46, 2));
        Due.due("22: 1 below 9", c.tree(1, 0, 1, 0), 9);
        Due.due("22: sum", c.tree(1, 0, 1, 2), 10);
    }

    private static int[] by(int from, int to, int hour, int minutes, int pause) {
        return Due.row(from, to, hour, minutes, 0, pause);
    }

    private static void lacks() {
        CallSigns c = Due.with(by(0, 1, 0, 5, 10));
        Due.due("23: neither answered nor answering", c.lacks(0, 0, 0), 3);
        Due.due("23: no calls of it", c.lacks(1, 0, 0), 0);
        Due.due("23: no calls then", c.lacks(0, 1, 19), 0);
        Due.add(c, by(0, 2, 1, 5, 11));
        Due.due("23: two as long", c.lacks(0, 0, 0), 7);
        Due.add(c, by(7, 8, 30, 9, 12));
        Due.due("23: the hand is another's on another day", c.lacks(0, 0, 0), 7);
        Due.due("23: the hand is another's", c.lacks(0, 0, 1), 15);
        Due.due("23: of the other one", c.lacks(7, 0, 1), 11);
        Due.due("23: of the other one on its day", c.lacks(7, 1, 1), 3);
        c.apart(0);
        Due.due("23: two hands", c.lacks(0, 0, 1), 7);
        c.apart(3);
        Due.add(c, by(0, 3, 26, 6, 10));
        Due.due("23: one is not as long", c.lacks(0, 0, 1), 11);
        Due.add(c, by(0, 3, 27, 6, 80));
        Due.due("23: two hands", c.lacks(0, 0, 1), 3);
        Due.add(c, by(3, 0, 28, 6, 60));
        Due.due("23: answered", c.lacks(0, 0, 1), 2);
        Due.due("23: only on the other day", c.lacks(0, 0, 0), 7);
        Due.due("23: it answers", c.lacks(3, 1, 1), 1);
        // An answer on DAY 2 to a CALL of DAY 1, in both directions of looking.
        CallSigns d = Due.with(by(0, 1, 47, 5, 10), by(1, 0, 48, 6, 50));
        Due.due("23: answered on another day", d.lacks(0, 1, 1), 2);
        Due.due("23: answers one of another day", d.lacks(1, 2, 2), 1);
        CallSigns e = Due.with(by(0, 1, 0, 1, 10), by(1, 0, 1, 2, 30), by(0, 1, 2, 1, 12));
        Due.due("23: 1 answers and is answered", e.lacks(1, 0, 0), 0);
        Due.due("23: 0 too, but both are as long", e.lacks(0, 0, 0), 4);
        CallSigns f = Due.with(by(0, 1, 0, 1, 10), by(1, 2, 5, 2, 11));
        Due.due("23: the hand is that of the very first call", f.lacks(1, 0, 0), 11);
        e.apart(99);
        Due.due("23: the first call is another's by that hand", e.lacks(1, 0, 0), 8);
        Due.due("23: d above e", c.lacks(0, 1, 0), Due.BAD);
    }

    private static void show() {
        CallSigns c = Due.with(by(0, 1, 0, 5, 10), by(0, 2, 1, 5, 11), by(4, 5, 2, 6, 12), by(11, 3, 3, 9, 90),
                by(11, 3, 30, 9, 90));
        // 0 lacks all four, 4 has 1, 2 and 8, 11 has 1 and 2 only, as it sends once on DAY 0.
        Due.due("24: 0 and 4", c.show(0, 0), 1 | 16);
        Due.due("24: 11 with two days", c.show(0, 1), 1 | 16 | 2048);
        Due.due("24: 11 on its second day", c.show(1, 1), 0);
        Due.due("24: nothing", c.show(2, 19), 0);
        Due.due("24: d above e", c.show(1, 0), Due.BAD);
        Due.add(c, by(5, 4, 3, 1, 70));
        Due.due("24: 4 is answered", c.show(0, 0), 1);
    }
}
