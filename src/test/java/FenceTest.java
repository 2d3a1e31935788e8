/** Promises 13 to 16: fence, corner, in, port. */
public final class FenceTest {
    public static void main(String[] args) {
        fences();
        corners();
        fewCorners();
        sides();
        throughCorners();
        crossing();
        flat();
        great();
        ports();
        Check.end();
    }

    private static boolean inside(TrackRows t, int fence, int x, int y) {
        int second = t.has(0, 0);
        int place = t.place(0, second, x, y);
        return t.in(0, place, fence);
    }

    private static int fenceOf(TrackRows t, int... numbers) {
        int fence = t.fence();
        for (int k = 0; k < numbers.length; k += 2) {
            Check.is("corner", t.corner(fence, numbers[k], numbers[k + 1]), k / 2 + 1);
        }
        return fence;
    }

    private static void fences() {
        TrackRows t = new TrackRows();
        for (int k = 0; k < 4; k++) {
            Check.is("told(1)", t.told(1), k);
            Check.is("fence()", t.fence(), k);
        }
        Check.tooMany("a fifth fence", t::fence);
        Check.is("told(1) at the end", t.told(1), 4);
        Check.noSuch("fence 4", () -> t.corner(4, 0, 0));
    }

    private static void corners() {
        TrackRows t = new TrackRows();
        t.fence();
        for (int k = 0; k < 8; k++) {
            Check.is("corner", t.corner(0, 100000, -100000), k + 1);
        }
        Check.tooMany("a ninth corner", () -> t.corner(0, 0, 0));
        Check.notTold("wrong before too many", () -> t.corner(0, 0, 100001));
        t.fence();
        Check.notTold("x 100001", () -> t.corner(1, 100001, 0));
        Check.notTold("x -100001", () -> t.corner(1, -100001, 0));
        Check.notTold("y 100001", () -> t.corner(1, 0, 100001));
        Check.notTold("y -100001", () -> t.corner(1, 0, -100001));
        Check.noSuch("fence before numbers", () -> t.corner(2, 0, 100001));
        Check.noSuch("fence -1", () -> t.corner(-1, 0, 0));
        Check.is("a first corner", t.corner(1, 0, 0), 1);
    }

    private static void fewCorners() {
        TrackRows t = new TrackRows();
        t.device();
        int fence = t.fence();
        Check.is("no corner", inside(t, fence, 0, 0), false);
        t.corner(fence, 0, 0);
        Check.is("one corner", t.in(0, 0, fence), false);
        t.corner(fence, 10, 0);
        Check.is("two corners", t.in(0, 0, fence), false);
        Check.is("no port", t.port(0, 0), TrackRows.NONE);
        t.corner(fence, 5, 9);
        Check.is("three corners", t.in(0, 0, fence), true);
        Check.noSuch("fence 1", () -> t.in(0, 0, 1));
        Check.noSuch("fence -1", () -> t.in(0, 0, -1));
        Check.noSuch("place 1", () -> t.in(0, 1, 0));
        Check.noSuch("place -1", () -> t.in(0, -1, 0));
        Check.noSuch("device 1", () -> t.in(1, 0, 0));
    }

    private static void sides() {
        TrackRows t = new TrackRows();
        t.device();
        int fence = fenceOf(t, 0, 0, 30, 10, 0, 20);
        Check.is("on a slanting side", inside(t, fence, 15, 5), true);
        Check.is("above it by less than a metre", inside(t, fence, 14, 5), true);
        Check.is("below it by less than a metre", inside(t, fence, 16, 5), false);
        Check.is("on the side from last to first", inside(t, fence, 0, 13), true);
        Check.is("beyond that side's end", inside(t, fence, 0, 21), false);
        Check.is("in line with a side, beyond it", inside(t, fence, 33, 11), false);
        Check.is("in line with a side, before it", inside(t, fence, -3, -1), false);
        Check.is("west", inside(t, fence, -1, 10), false);
    }

    private static void throughCorners() {
        TrackRows t = new TrackRows();
        t.device();
        int fence = fenceOf(t, 0, 0, 10, 10, 20, 0, 30, 10, 40, 0, 40, 20, 0, 20);
        Check.is("west at a height of two peaks", inside(t, fence, -1, 10), false);
        Check.is("between them at that height", inside(t, fence, 20, 10), true);
        Check.is("under a peak", inside(t, fence, 20, 1), true);
        Check.is("in a notch", inside(t, fence, 10, 9), false);
        Check.is("west at the foot", inside(t, fence, -1, 0), false);
        Check.is("west at the top", inside(t, fence, -1, 20), false);
        Check.is("in a foot's height, between feet", inside(t, fence, 10, 0), false);
        Check.is("on a peak", inside(t, fence, 10, 10), true);
    }

    private static void crossing() {
        TrackRows t = new TrackRows();
        t.device();
        // A star of five points: its middle is passed by two sides.
        int star = fenceOf(t, 0, 100, 60, -80, -95, 30, 95, 30, -60, -80);
        Check.is("the star's middle", inside(t, star, 0, 0), false);
        Check.is("a point of the star", inside(t, star, 0, 80), true);
        Check.is("another point", inside(t, star, 80, 26), true);
        Check.is("between points", inside(t, star, 60, 60), false);
        Check.is("on an inner side", inside(t, star, 0, 30), true);
    }

    private static void flat() {
        TrackRows t = new TrackRows();
        t.device();
        int line = fenceOf(t, 0, 0, 10, 0, 5, 0);
        Check.is("on a flat fence", inside(t, line, 7, 0), true);
        Check.is("beside a flat fence", inside(t, line, 11, 0), false);
        Check.is("above a flat fence", inside(t, line, 7, 1), false);
        int point = fenceOf(t, 3, 3, 3, 3, 3, 3);
        Check.is("at a fence of one point", inside(t, point, 3, 3), true);
        Check.is("beside it", inside(t, point, 2, 3), false);
        Check.is("under it", inside(t, point, 3, 2), false);
    }

    private static void great() {
        TrackRows t = new TrackRows();
        t.device();
        int fence = fenceOf(t, -100000, -100000, 100000, 99999, 100000, 100000, -99999, 100000);
        Check.is("near the great side", inside(t, fence, 99999, 99998), false);
        Check.is("in the great fence", inside(t, fence, 0, 50), true);
        Check.is("just on the other side", inside(t, fence, 1, -1), false);
        Check.is("far corner", inside(t, fence, 100000, 100000), true);
        Check.is("other far corner", inside(t, fence, 100000, -100000), false);
    }

    private static void ports() {
        TrackRows t = new TrackRows();
        t.device();
        fenceOf(t, 0, 0, 10, 0, 10, 10, 0, 10);
        fenceOf(t, 5, 5);
        fenceOf(t, 5, 5, 20, 5, 20, 20, 5, 20);
        fenceOf(t, -50, -50, 50, -50, 50, 50, -50, 50);
        t.place(0, 1, 7, 7);
        t.place(0, 2, 15, 15);
        t.place(0, 3, 40, 40);
        t.place(0, 4, 60, 40);
        Check.is("in three", t.port(0, 0), 0);
        Check.is("in two", t.port(0, 1), 2);
        Check.is("in the last", t.port(0, 2), 3);
        Check.is("in none", t.port(0, 3), TrackRows.NONE);
        Check.noSuch("place 4", () -> t.port(0, 4));
        Check.noSuch("place -1", () -> t.port(0, -1));
        Check.noSuch("device 1", () -> t.port(1, 0));
    }
}
