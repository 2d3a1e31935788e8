/** Boundary sentences on fences: promises 13 to 16. */
public final class FenceEdgeTest {
    private static final int NONE = TrackRows.NONE;

    public static void main(String[] args) {
        withoutCorners();
        fewerThanThree();
        justThree();
        allEight();
        cornersKept();
        lastJoinedToFirst();
        sidesCross();
        onASide();
        inLineButBeyond();
        atTheHeightOfACorner();
        cornersTwice();
        greatNumbers();
        portOfNone();
        portIsTheFirst();
        Check.end();
    }

    private static void fence(TrackRows t, int... numbers) {
        int fence = t.fence();
        for (int k = 0; k < numbers.length; k += 2) {
            Check.is("corner", t.corner(fence, numbers[k], numbers[k + 1]), k / 2 + 1);
        }
    }

    private static TrackRows fenced(int... numbers) {
        TrackRows t = new TrackRows();
        t.device();
        fence(t, numbers);
        return t;
    }

    private static void point(TrackRows t, int x, int y, boolean due) {
        int place = t.place(0, t.has(0, 0), x, y);
        Check.is("(" + x + ", " + y + ") in", t.in(0, place, 0), due);
        Check.is("port of (" + x + ", " + y + ")", t.port(0, place), due ? 0 : NONE);
    }

    // "A new fence, without corners"
    private static void withoutCorners() {
        TrackRows t = fenced();
        point(t, 0, 0, false);
        Check.is("its first corner", t.corner(0, 0, 0), 1);
        Check.is("the next fence", t.fence(), 1);
        Check.is("its first corner", t.corner(1, 0, 0), 1);
        Check.is("the first fence's second corner", t.corner(0, 0, 0), 2);
    }

    // "false for one of fewer corners than 3": also at a corner and on the only side
    private static void fewerThanThree() {
        TrackRows one = fenced(5, 5);
        point(one, 5, 5, false);
        TrackRows two = fenced(0, 0, 10, 10);
        point(two, 0, 0, false);
        point(two, 5, 5, false);
        point(two, 10, 10, false);
        point(two, 4, 5, false);
    }

    // "A place is IN a fence of 3 corners or more"
    private static void justThree() {
        TrackRows t = fenced(0, 0, 10, 0, 0, 10);
        point(t, 3, 3, true);
        point(t, 5, 5, true);
        point(t, 6, 5, false);
        point(t, 0, 0, true);
        point(t, -1, 0, false);
        point(t, 0, -1, false);
    }

    // "CORNERS, at most 8": each of them counts.
    private static void allEight() {
        TrackRows t = fenced(0, 0, 20, 0, 20, 20, 15, 20, 15, 5, 5, 5, 5, 20, 0, 20);
        point(t, 2, 19, true);
        point(t, 18, 19, true);
        point(t, 10, 19, false);
        point(t, 10, 3, true);
        point(t, 0, 7, true);
        point(t, 5, 12, true);
        point(t, 6, 12, false);
        point(t, 3, 20, true);
        point(t, 10, 20, false);
        Check.tooMany("a ninth", () -> t.corner(0, 10, 100));
        point(t, 10, 21, false);
        point(t, 1, 19, true);
    }

    // "x and y -100000 .. 100000"
    private static void cornersKept() {
        TrackRows t = fenced(-100000, -100000, 100000, -100000, 100000, 100000, -100000, 100000);
        point(t, 100000, 100000, true);
        point(t, -100000, -100000, true);
        point(t, 100000, -100000, true);
        point(t, -100000, 100000, true);
        point(t, 0, 100000, true);
        point(t, 99999, 0, true);
        TrackRows u = fenced(-99999, -99999, 99999, -99999, 99999, 99999, -99999, 99999);
        point(u, 100000, 0, false);
        point(u, -100000, 0, false);
        point(u, 0, 100000, false);
        point(u, 0, -100000, false);
    }

    // "each joined to the next one, the last one to the first": a corner more moves that side.
    private static void lastJoinedToFirst() {
        TrackRows t = fenced(0, 0, 10, 0, 10, 10);
        point(t, 1, 9, false);
        point(t, 5, 5, true);
        Check.is("a corner more", t.corner(0, 0, 10), 4);
        Check.is("in now", t.in(0, 0, 0), true);
        Check.is("still in", t.in(0, 1, 0), true);
        point(t, 0, 5, true);
        Check.is("a corner in the middle", t.corner(0, 5, 5), 5);
        point(t, 0, 6, false);
        Check.is("on a side still", t.in(0, 1, 0), true);
        Check.is("(1, 9) is above the new side", t.in(0, 0, 0), true);
    }

    // "(also where sides cross)"
    private static void sidesCross() {
        TrackRows bow = fenced(0, 0, 10, 10, 10, 0, 0, 10);
        point(bow, 1, 5, true);
        point(bow, 9, 5, true);
        point(bow, 5, 8, false);
        point(bow, 5, 2, false);
        point(bow, 5, 5, true);
        TrackRows twiceRound = fenced(0, 0, 10, 0, 10, 10, 0, 10, 0, 0, 10, 0, 10, 10, 0, 10);
        point(twiceRound, 5, 5, false);
        point(twiceRound, 0, 5, true);
        point(twiceRound, 5, 10, true);
    }

    // "if it lies on a side"
    private static void onASide() {
        TrackRows t = fenced(0, 0, 10, 0, 14, 8, 4, 8);
        point(t, 5, 0, true);
        point(t, 12, 4, true);
        point(t, 9, 8, true);
        point(t, 2, 4, true);
        point(t, 0, 0, true);
        point(t, 10, 0, true);
        point(t, 14, 8, true);
        point(t, 4, 8, true);
        point(t, 13, 4, false);
        point(t, 1, 4, false);
        point(t, 9, 9, false);
        point(t, 5, -1, false);
    }

    /** In line with a side, but no point of it. */
    private static void inLineButBeyond() {
        TrackRows t = fenced(0, 0, 10, 0, 14, 8, 4, 8);
        point(t, -1, 0, false);
        point(t, 11, 0, false);
        point(t, 3, 8, false);
        point(t, 15, 8, false);
        point(t, 15, 10, false);
        point(t, 9, -2, false);
        point(t, 5, 10, false);
        point(t, -1, -2, false);
    }

    // "if just one of its ends has a greater y than the place"
    private static void atTheHeightOfACorner() {
        TrackRows diamond = fenced(0, -10, 10, 0, 0, 10, -10, 0);
        point(diamond, 0, 0, true);
        point(diamond, -11, 0, false);
        point(diamond, 11, 0, false);
        point(diamond, -1, 10, false);
        point(diamond, -1, -10, false);
        point(diamond, 0, 10, true);
        point(diamond, 0, -10, true);
        TrackRows stairs = fenced(0, 0, 30, 0, 30, 10, 20, 10, 20, 5, 10, 5, 10, 10, 0, 10);
        point(stairs, 5, 5, true);
        point(stairs, -1, 5, false);
        point(stairs, 25, 5, true);
        point(stairs, 15, 5, true);
        point(stairs, 15, 6, false);
        point(stairs, -1, 10, false);
        point(stairs, -1, 0, false);
        point(stairs, 15, 10, false);
    }

    /** Corners that are told twice make sides of one point. */
    private static void cornersTwice() {
        TrackRows t = fenced(0, 0, 0, 0, 10, 0, 10, 0, 10, 10, 10, 10, 0, 10, 0, 10);
        point(t, 5, 5, true);
        point(t, 0, 0, true);
        point(t, 10, 10, true);
        point(t, 11, 10, false);
        point(t, -1, 0, false);
        TrackRows one = fenced(7, 7, 7, 7, 7, 7);
        point(one, 7, 7, true);
        point(one, 6, 7, false);
        point(one, 7, 6, false);
        TrackRows line = fenced(0, 0, 0, 10, 0, 5);
        point(line, 0, 10, true);
        point(line, 0, 11, false);
        point(line, -1, 5, false);
        point(line, 1, 5, false);
    }

    private static void greatNumbers() {
        TrackRows t = fenced(-100000, -100000, 100000, 100000, -100000, 100000);
        point(t, -100000, 100000, true);
        point(t, 99998, 99999, true);
        point(t, 99999, 99998, false);
        point(t, 0, 0, true);
        point(t, 100000, -100000, false);
        TrackRows u = fenced(-100000, -100000, 100000, 99999, -100000, 100000);
        point(u, 0, 0, true);
        point(u, 0, -1, false);
        point(u, 99999, 99998, false);
        point(u, 99999, 99999, true);
    }

    // "NONE if there is none": no fence at all, none with corners enough, none that it is in
    private static void portOfNone() {
        TrackRows t = new TrackRows();
        t.device();
        t.place(0, 0, 1, 1);
        Check.is("no fence", t.port(0, 0), NONE);
        fence(t);
        fence(t, 1, 1);
        fence(t, 0, 0, 2, 2);
        Check.is("no corners enough", t.port(0, 0), NONE);
        fence(t, 5, 5, 9, 5, 5, 9);
        Check.is("not in it", t.port(0, 0), NONE);
        Check.is("a third corner", t.corner(2, 2, 0), 3);
        Check.is("in it now", t.port(0, 0), 2);
    }

    // "The first fence that a place is IN"
    private static void portIsTheFirst() {
        TrackRows t = new TrackRows();
        t.device();
        t.place(0, 0, 1, 1);
        for (int f = 0; f < 4; f++) {
            fence(t, 0, 0, 3, 0);
        }
        for (int f = 3; f >= 0; f--) {
            t.corner(f, 0, 3);
            Check.is("in fence " + f, t.in(0, 0, f), true);
            Check.is("port", t.port(0, 0), f);
        }
    }
}
