/** Boundary sentences on cells: promise 12. */
public final class CellEdgeTest {
    public static void main(String[] args) {
        cellsHaveTheirMetres();
        cellsBelowZero();
        farthestCells();
        ownCellTakesNoTime();
        allTheTimeThere();
        allTheTimeBack();
        wholeSecondsOnly();
        perhapsAnotherPoint();
        slantingWays();
        speedAtMost();
        trueTimeOfTheGap();
        longestGap();
        everyGapByItsOwnPlaces();
        noSuchGap();
        Check.end();
    }

    /** A ship at one point for so many seconds, at 1 metre a second, each second counting. */
    private static TrackRows resting(int x, int y, int seconds) {
        TrackRows t = new TrackRows();
        t.device();
        t.limit(1);
        t.speed(1);
        t.place(0, 0, x, y);
        t.place(0, seconds, x, y);
        return t;
    }

    private static TrackRows gapOf(int seconds, int x0, int y0, int x1, int y1) {
        TrackRows t = new TrackRows();
        t.device();
        t.limit(1);
        t.place(0, 0, x0, y0);
        t.place(0, seconds, x1, y1);
        return t;
    }

    private static void there(TrackRows t, String what, int i, int j, boolean due) {
        Check.is(what + ": could(" + i + ", " + j + ")", t.could(0, 0, i, j), due);
    }

    /** So many metres to a cell: in twice as many seconds, and not in one less. */
    private static void away(int x, int y, int i, int j, int metres) {
        there(resting(x, y, 2 * metres), "from " + x + ", " + y, i, j, true);
        there(resting(x, y, 2 * metres - 1), "too soon from " + x + ", " + y, i, j, false);
    }

    // "the points with x from 1000 i to 1000 i + 999, and y from 1000 j to 1000 j + 999"
    private static void cellsHaveTheirMetres() {
        there(resting(1000, 500, 2), "first x", 1, 0, true);
        there(resting(1999, 500, 2), "last x", 1, 0, true);
        there(resting(500, 1000, 2), "first y", 0, 1, true);
        there(resting(500, 1999, 2), "last y", 0, 1, true);
        away(997, 500, 1, 0, 3);
        away(2002, 500, 1, 0, 3);
        away(500, 997, 0, 1, 3);
        away(500, 2002, 0, 1, 3);
    }

    private static void cellsBelowZero() {
        there(resting(0, 0, 2), "0", 0, 0, true);
        there(resting(-1, -1, 2), "-1", -1, -1, true);
        there(resting(-1000, -1000, 2), "-1000", -1, -1, true);
        away(1, 5, -1, 0, 2);
        away(5, 1, 0, -1, 2);
        away(-2, 5, 0, 0, 2);
        away(5, -2, 0, 0, 2);
        away(-999, -1, -2, -1, 2);
        away(-1002, -1, -1, -1, 2);
        away(-1, -999, -1, -2, 2);
        away(-1, -1002, -1, -1, 2);
    }

    // "i and j -200 .. 200": the farthest cells lie beyond all places.
    private static void farthestCells() {
        away(100000, 0, 200, 0, 100000);
        away(-100000, 0, -200, 0, 99001);
        away(0, 100000, 0, 200, 100000);
        away(0, -100000, 0, -200, 99001);
        away(-100000, 0, 200, 0, 300000);
        away(100000, 0, -200, 0, 299001);
        // 300000 times the root of 2 is 424264.07
        away(-100000, -100000, 200, 200, 424265);
        away(-100000, 100000, 200, -200, 423559);
    }

    private static void ownCellTakesNoTime() {
        TrackRows t = gapOf(2, 500, 500, 99500, 500);
        there(t, "a jump: neither cell is reached from the other place", 0, 0, false);
        there(t, "a jump: neither cell is reached from the other place", 99, 0, false);
        TrackRows u = gapOf(2, 500, 500, 510, 500);
        there(u, "both in it", 0, 0, true);
    }

    // "some whole number of seconds and some other one, together": all of them there, none back
    private static void allTheTimeThere() {
        there(gapOf(5, 950, 0, 1500, 0), "50 metres in 5 seconds, then none", 1, 0, true);
        there(gapOf(5, 949, 0, 1500, 0), "51 metres in 5 seconds", 1, 0, false);
    }

    private static void allTheTimeBack() {
        there(gapOf(5, 1500, 0, 950, 0), "none, then 50 metres in 5 seconds", 1, 0, true);
        there(gapOf(5, 1500, 0, 949, 0), "51 metres in 5 seconds", 1, 0, false);
    }

    /** Seconds are not shared: what is left of one on the way there is no use on the way back. */
    private static void wholeSecondsOnly() {
        there(gapOf(2, 995, 0, 995, 0), "5 and 5 metres in 2 seconds", 1, 0, true);
        there(gapOf(3, 985, 0, 985, 0), "15 and 15 metres in 3 seconds", 1, 0, false);
        there(gapOf(4, 985, 0, 985, 0), "15 and 15 metres in 4 seconds", 1, 0, true);
        there(gapOf(3, 989, 0, 995, 0), "11 and 5 metres in 3 seconds", 1, 0, true);
        there(gapOf(3, 989, 0, 989, 0), "11 and 11 metres in 3 seconds", 1, 0, false);
        there(gapOf(3, 990, 0, 980, 0), "10 and 20 metres in 3 seconds", 1, 0, true);
        there(gapOf(3, 990, 0, 979, 0), "10 and 21 metres in 3 seconds", 1, 0, false);
        there(gapOf(3, 979, 0, 990, 0), "21 and 10 metres in 3 seconds", 1, 0, false);
    }

    // "from the point of the cell that is nearest to the second place (perhaps another point)"
    private static void perhapsAnotherPoint() {
        there(gapOf(2, 990, 500, 2009, 500), "in on one side, out on the other", 1, 0, true);
        there(gapOf(2, 989, 500, 2009, 500), "a metre more before it", 1, 0, false);
        there(gapOf(2, 990, 500, 2010, 500), "a metre more behind it", 1, 0, false);
        there(gapOf(2, 1500, -10, 1500, 1009), "from south to north", 1, 0, true);
        there(gapOf(2, 1500, -10, 1500, 1010), "a metre more", 1, 0, false);
    }

    private static void slantingWays() {
        there(gapOf(2, 994, 992, 994, 992), "6 and 8 metres are 10", 1, 1, true);
        there(gapOf(2, 993, 992, 994, 992), "7 and 8 metres are more", 1, 1, false);
        there(gapOf(2, 2005, 2007, 2005, 2007), "6 and 8 metres from the other side", 1, 1, true);
        there(gapOf(2, 2005, 2008, 2005, 2007), "6 and 9 metres", 1, 1, false);
        there(gapOf(2, 2005, 992, 994, 2007), "6 and 8 at two corners", 1, 1, true);
    }

    // "with SPEED at most"
    private static void speedAtMost() {
        TrackRows t = gapOf(2, 990, 0, 990, 0);
        there(t, "10 metres at 10", 1, 0, true);
        t.speed(9);
        there(t, "10 metres at 9", 1, 0, false);
        t.speed(100);
        there(t, "10 metres at 100", 1, 0, true);
        TrackRows u = gapOf(2, 900, 0, 900, 0);
        u.speed(99);
        there(u, "100 metres at 99", 1, 0, false);
        u.speed(100);
        there(u, "100 metres at 100", 1, 0, true);
    }

    // "if the true time of the gap is ..": not that of the clock
    private static void trueTimeOfTheGap() {
        TrackRows t = gapOf(100, 900, 0, 900, 0);
        t.mark(0, 0, 0);
        t.mark(0, 100, 20);
        there(t, "10 and 10 seconds in 20", 1, 0, true);
        TrackRows u = gapOf(100, 900, 0, 900, 0);
        u.mark(0, 0, 0);
        u.mark(0, 100, 19);
        there(u, "10 and 10 seconds in 19", 1, 0, false);
        TrackRows v = gapOf(10, 900, 0, 900, 0);
        v.mark(0, 0, 0);
        v.mark(0, 10, 20);
        there(v, "in 20 that its clock takes for 10", 1, 0, true);
    }

    private static void longestGap() {
        TrackRows t = new TrackRows();
        t.device();
        t.mark(0, 500000, 0);
        t.mark(0, 500001, 1000000);
        t.place(0, 0, -100000, -100000);
        t.place(0, 1000000, 100000, 100000);
        for (int speed : new int[] {1, 100}) {
            t.speed(speed);
            there(t, "1999999 seconds", 200, 200, true);
            there(t, "1999999 seconds", -200, -200, true);
            there(t, "1999999 seconds", 200, -200, true);
        }
    }

    private static void everyGapByItsOwnPlaces() {
        TrackRows t = new TrackRows();
        t.device();
        t.place(0, 0, 500, 500);
        t.place(0, 1000, 500, 500);
        t.place(0, 1001, 50500, 500);
        t.place(0, 2001, 50500, 500);
        Check.is("gap 0 at 0", t.could(0, 0, 0, 0), true);
        Check.is("gap 0 at 50", t.could(0, 0, 50, 0), false);
        Check.is("gap 1 at 0", t.could(0, 1, 0, 0), false);
        Check.is("gap 1 at 50", t.could(0, 1, 50, 0), true);
    }

    // "IndexOutOfBoundsException: there is no such .. gap"
    private static void noSuchGap() {
        Check.CallOn justTheLimit = t -> {
            t.device();
            t.place(0, 0, 0, 0);
            t.place(0, 600, 0, 0);
        };
        Check.CallOn onePlace = t -> {
            t.device();
            t.place(0, 0, 0, 0);
        };
        Check.noSuch("600 seconds", justTheLimit, t -> t.could(0, 0, 0, 0));
        Check.noSuch("one place", onePlace, t -> t.could(0, 0, 0, 0));
        Check.noSuch("behind the last gap", Made::some, t -> t.could(0, 2, 0, 0));
        Check.noSuch("before the first gap", Made::some, t -> t.could(0, -1, 0, 0));
        TrackRows t = new TrackRows();
        justTheLimit.run(t);
        t.limit(599);
        Check.is("now it is one", t.could(0, 0, 0, 0), true);
        t.place(0, 1, 0, 0);
        Check.is("it has become 599 seconds", t.has(0, 4), 0);
        Check.noSuch("and is none", () -> t.could(0, 0, 0, 0));
    }
}
