/** Promises 25 to 29 at their edges; each test begins with the words that it holds the class to. */
public final class EdgesPlacesTest {
    private EdgesPlacesTest() { }

    public static void main(String[] args) {
        hearers();
        fortyBearings();
        directions();
        aboveZero();
        noMoreThan();
        asItIsNow();
        allWithout();
        allItsBearings();
        middle();
        cellsOfAPatch();
        moved();
        movedNone();
        Due.end("EdgesPlacesTest", 25, 29);
    }

    private static void hearers() {
        Due.says(25, "A HEARER is in a CELL: where it was (16 x and y). BAD.");
        CallSigns c = new CallSigns();
        for (int hearer = 0; hearer < 4; hearer++) Due.due("(0, 0) at first", c.hearer(hearer, 15, 15), 0);
        for (int hearer = 0; hearer < 4; hearer++) Due.due("from (15, 15)", c.hearer(hearer, hearer, 15), 255);
        for (int hearer = 0; hearer < 4; hearer++) Due.due("each its own", c.hearer(hearer, 15, 0), 16 * hearer + 15);
        for (int x : new int[] {-1, 16}) {
            Due.due("x " + x, c.hearer(2, x, 3), Due.BAD);
            Due.due("y " + x, c.hearer(2, 3, x), Due.BAD);
        }
        Due.due("HEARER 4", c.hearer(4, 3, 3), Due.BAD);
        Due.due("it is where it was", c.hearer(2, 0, 0), 240);
        CallSigns all = new CallSigns();
        for (int cell = 1; cell < 256; cell++) Due.due("from " + (cell - 1), all.hearer(3, cell / 16, cell % 16), cell - 1);
    }

    private static void fortyBearings() {
        Due.says(26, "A BEARING: how many. BAD; FULL: 40.");
        CallSigns c = new CallSigns();
        for (int i = 1; i <= 39; i++) Due.due("BEARING " + i, c.bearing(0, 4, 2, 1, 1, 20), i);
        c.keep();
        Due.due("BEARING 40", c.bearing(3, 11, 19, -9, 0, 20), 40);
        Due.due("the 40th counts", c.patch(11, 19, 0), 0);
        Due.due("BEARING 41", c.bearing(0, 4, 2, -1, -1, 1), Due.FULL);
        Due.due("40 they are", c.count(3), 40);
        Due.due("the 41st does not count", c.isIn(4, 2, 5, 5), 1);
        c.back();
        Due.due("one has room again", c.bearing(0, 4, 2, -1, -1, 1), 40);
        Due.due("and counts", c.isIn(4, 2, 5, 5), 0);
        Due.due("the other one is gone", c.patch(11, 19, 0), 256);
    }

    private static void directions() {
        Due.says(26, "(u, v) (-9 to 9 each, not both 0), w (1 to 20)");
        for (int u = -10; u <= 10; u++) {
            for (int v = -10; v <= 10; v++) {
                boolean told = u >= -9 && u <= 9 && v >= -9 && v <= 9 && (u != 0 || v != 0);
                Due.due("(" + u + ", " + v + ")", new CallSigns().bearing(0, 0, 0, u, v, 1), told ? 1 : Due.BAD);
            }
        }
        for (int w = 0; w <= 21; w++) {
            Due.due("w " + w, new CallSigns().bearing(0, 0, 0, 1, 0, w), w >= 1 && w <= 20 ? 1 : Due.BAD);
        }
        // From (8, 8) straight to each side and slantwise: what lies that way fits, what lies opposite does not.
        for (int dx = -1; dx <= 1; dx++) {
            for (int dy = -1; dy <= 1; dy++) {
                if (dx == 0 && dy == 0) continue;
                CallSigns c = new CallSigns();
                c.hearer(1, 8, 8);
                c.bearing(1, 5, 6, 9 * dx, 9 * dy, 1);
                for (int far = 1; far <= 7; far++) {
                    Due.due("that way", c.isIn(5, 6, 8 + far * dx, 8 + far * dy), 1);
                    Due.due("the other way", c.isIn(5, 6, 8 - far * dx, 8 - far * dy), 0);
                    Due.due("across", c.isIn(5, 6, 8 + far * dy, 8 - far * dx), 0);
                }
            }
        }
    }

    private static void aboveZero() {
        Due.says(28, "u dx + v dy is above 0");
        CallSigns c = new CallSigns();
        c.hearer(0, 5, 5);
        c.bearing(0, 3, 3, 1, 2, 20);
        Due.due("its own CELL: 0", c.isIn(3, 3, 5, 5), 0);
        Due.due("(2, -1): 0", c.isIn(3, 3, 7, 4), 0);
        Due.due("(-2, 1): 0", c.isIn(3, 3, 3, 6), 0);
        Due.due("(-1, -2): below 0", c.isIn(3, 3, 4, 3), 0);
        Due.due("(1, 0): 1, and 2 off with w 20", c.isIn(3, 3, 6, 5), 1);
        Due.due("(1, 2)", c.isIn(3, 3, 6, 7), 1);
    }

    private static void noMoreThan() {
        Due.says(28, "10 times what u dy - v dx is off 0 is no more than w times that");
        for (int w = 1; w <= 20; w++) {
            CallSigns up = new CallSigns();
            CallSigns down = new CallSigns();
            down.hearer(0, 0, 15);
            up.bearing(0, 0, 0, 1, 0, w);
            down.bearing(0, 0, 0, 1, 0, w);
            for (int x = 1; x <= 15; x++) {
                for (int y = 0; y <= 15; y++) {
                    // What is told is a share of tenths: y by x is no more than w by 10.
                    int due = 10 * y <= w * x ? 1 : 0;
                    Due.due("w " + w + " (" + x + ", " + y + ")", up.isIn(0, 0, x, y), due);
                    Due.due("w " + w + " (" + x + ", -" + y + ")", down.isIn(0, 0, x, 15 - y), due);
                }
            }
        }
        // (9, -9) from (0, 15): to (10, 14) 9 * 10 + 9 is 99 along, 9 * 9 is 81 off: 810 is no more than 891, but than 792.
        for (int w = 8; w <= 9; w++) {
            CallSigns c = new CallSigns();
            c.hearer(3, 0, 15);
            c.bearing(3, 0, 0, 9, -9, w);
            Due.due("slantwise with w " + w, c.isIn(0, 0, 10, 14), w - 8);
        }
    }

    private static void asItIsNow() {
        Due.says(28, "from the HEARER's CELL as it is now");
        CallSigns c = new CallSigns();
        c.bearing(2, 7, 0, 1, 0, 1);
        Due.due("from (0, 0)", c.isIn(7, 0, 9, 0), 1);
        c.hearer(2, 9, 0);
        Due.due("from (9, 0)", c.isIn(7, 0, 9, 0), 0);
        c.hearer(2, 8, 0);
        Due.due("from (8, 0)", c.isIn(7, 0, 9, 0), 1);
        c.hearer(1, 15, 15);
        Due.due("another HEARER goes", c.isIn(7, 0, 9, 0), 1);
        c.hearer(2, 16, 0);
        Due.due("it did not go where there is no CELL", c.isIn(7, 0, 9, 0), 1);
        c.keep();
        c.hearer(2, 0, 15);
        c.back();
        Due.due("it is not brought back", c.isIn(7, 0, 9, 0), 0);
    }

    private static void allWithout() {
        Due.says(27, "the CELLS that FIT all its BEARINGS of that DAY (all, without)");
        CallSigns c = new CallSigns();
        c.bearing(0, 5, 10, -1, -1, 1);
        Due.due("nothing lies that way", c.patch(5, 10, 0), 0);
        Due.due("the DAY ahead", c.patch(5, 9, 0), 256);
        Due.due("the DAY behind", c.patch(5, 11, 0), 256);
        Due.due("the NAME below", c.patch(4, 10, 0), 256);
        Due.due("the NAME above", c.patch(6, 10, 0), 256);
        Due.due("their MIDDLE", c.patch(6, 10, 1), 119);
    }

    private static void allItsBearings() {
        Due.says(27, "PATCH: how many CELLS (what = 0)");
        CallSigns c = new CallSigns();
        c.hearer(1, 15, 0);
        c.bearing(0, 0, 0, 1, 1, 1);
        // One beside the slant from (5, 6) on, two from (9, 11) on, on both sides.
        Due.due("the slant and what is 1 of 10 beside it", c.patch(0, 0, 0), 15 + 2 * 10 + 2 * 5);
        c.bearing(1, 0, 0, -1, 1, 1);
        // Slants from (0, 0) and (15, 0) cross between (7, 7) and (8, 8).
        Due.due("where both cross", c.patch(0, 0, 0), 4);
        Due.due("their MIDDLE", c.patch(0, 0, 1), 16 * 7 + 7);
        for (int i = 3; i <= 40; i++) c.bearing(i % 2, 0, 0, i % 2 == 0 ? 1 : -1, 1, 1);
        Due.due("the same 40 times", c.patch(0, 0, 0), 4);
    }

    private static void middle() {
        Due.says(27, "Its MIDDLE: the sums of x, of y by how many, cut.");
        CallSigns c = new CallSigns();
        c.hearer(0, 13, 13);
        c.bearing(0, 0, 0, 1, 1, 1);
        Due.due("(14, 14) and (15, 15)", c.patch(0, 0, 0), 2);
        Due.due("14.5 is cut", c.patch(0, 0, 1), 16 * 14 + 14);
        c.hearer(0, 14, 14);
        Due.due("(15, 15)", c.patch(0, 0, 1), 255);
        c.hearer(0, 1, 1);
        c.bearing(0, 0, 1, -1, -1, 1);
        Due.due("(0, 0)", c.patch(0, 1, 1), 0);
        c.hearer(0, 0, 12);
        c.bearing(0, 0, 2, 0, 1, 1);
        // (0, 13), (0, 14), (0, 15).
        Due.due("x 0, y 14", c.patch(0, 2, 1), 14);
        c.bearing(0, 0, 3, 0, 1, 10);
        // y 13: x 0, 1; y 14: 0 to 2; y 15: 0 to 3: nine CELLS, x 1 + 3 + 6 is 10, y 26 + 42 + 60 is 128.
        Due.due("nine CELLS", c.patch(0, 3, 0), 9);
        Due.due("1.1 and 14.2 are cut", c.patch(0, 3, 1), 16 + 14);
        Due.says(27, "(1; NONE: no CELL)");
        c.hearer(0, 0, 15);
        Due.due("no CELL", c.patch(0, 3, 0), 0);
        Due.due("no MIDDLE", c.patch(0, 3, 1), Due.NONE);
    }

    private static void cellsOfAPatch() {
        Due.says(28, "1: a CELL is of a PATCH; 0. BAD.");
        CallSigns c = new CallSigns();
        for (int x = 0; x < 16; x++) for (int y = 0; y < 16; y++) Due.due("all, without", c.isIn(0, 0, x, y), 1);
        for (int n : new int[] {-1, 16}) {
            Due.due("x " + n, c.isIn(0, 0, n, 0), Due.BAD);
            Due.due("y " + n, c.isIn(0, 0, 0, n), Due.BAD);
        }
        for (int x : new int[] {0, 15}) {
            for (int y : new int[] {0, 15}) {
                CallSigns corner = new CallSigns();
                corner.hearer(0, x == 0 ? 1 : 14, y == 0 ? 1 : 14);
                corner.bearing(0, 0, 0, x == 0 ? -1 : 1, y == 0 ? -1 : 1, 1);
                Due.due("the corner (" + x + ", " + y + ")", corner.isIn(0, 0, x, y), 1);
                Due.due("that CELL alone", corner.patch(0, 0, 0), 1);
                Due.due("not the opposite one", corner.isIn(0, 0, 15 - x, 15 - y), 0);
            }
        }
    }

    /** BEARINGS of HEARER 0 on DAY 0 and of HEARER 1 on DAY 1 that leave one CELL each: (x, 15) and (other, 0). */
    private static CallSigns inOneCellEach(int x, int other) {
        CallSigns c = new CallSigns();
        c.hearer(0, x, 14);
        c.bearing(0, 9, 0, 0, 1, 1);
        c.hearer(1, other, 1);
        c.bearing(1, 9, 1, 0, -1, 1);
        return c;
    }

    private static void moved() {
        Due.says(29, "the least of the greater of both differences of a CELL of the one PATCH and one of the other");
        for (int x = 0; x <= 15; x++) {
            CallSigns c = inOneCellEach(x, 15 - x);
            Due.due("one CELL each", c.patch(9, 0, 0) + c.patch(9, 1, 0), 2);
            Due.due("from (" + x + ", 15) to (" + (15 - x) + ", 0)", c.moved(9, 0, 1), 15);
            Due.due("and back", c.moved(9, 1, 0), 15);
            Due.due("on one DAY", c.moved(9, 0, 0), 0);
            Due.due("to where it may be anywhere", c.moved(9, 0, 2), 0);
        }
        // From (0, 15) along y 15: nearer and nearer to (15, 15).
        for (int x = 0; x <= 14; x++) {
            CallSigns c = new CallSigns();
            c.hearer(0, 14, 14);
            c.bearing(0, 2, 0, 1, 1, 1);
            c.hearer(1, x, 14);
            c.bearing(1, 2, 1, 0, 1, 1);
            Due.due("from (15, 15) to (" + x + ", 15)", c.moved(2, 0, 1), 15 - x);
            Due.due("from (" + x + ", 15) to (15, 15)", c.moved(2, 1, 0), 15 - x);
        }
        CallSigns lines = new CallSigns();
        lines.hearer(0, 3, 0);
        lines.bearing(0, 1, 5, 0, 1, 1);
        lines.hearer(1, 12, 15);
        lines.bearing(1, 1, 6, 0, -1, 1);
        // The columns 3 and 12 are wider by 1 at their far ends: 2 to 4 from y 10 on, 11 to 13 up to y 5.
        Due.due("from (4, 10) to (11, 5)", lines.moved(1, 5, 6), 7);
    }

    private static void movedNone() {
        Due.says(29, "none, if one is empty");
        CallSigns c = new CallSigns();
        c.bearing(0, 2, 0, -1, 0, 20);
        Due.due("empty", c.patch(2, 0, 0), 0);
        Due.due("from an empty one", c.moved(2, 0, 19), Due.NONE);
        Due.due("to an empty one", c.moved(2, 19, 0), Due.NONE);
        Due.due("from an empty one to itself", c.moved(2, 0, 0), Due.NONE);
        Due.due("another NAME", c.moved(3, 0, 19), 0);
        c.hearer(0, 1, 0);
        Due.due("no longer empty", c.moved(2, 0, 19), 0);
    }
}
