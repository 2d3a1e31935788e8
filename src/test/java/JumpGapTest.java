/** Promises 10, 11 and 12, and what of promise 4 is about them: jump, gap, could. */
public final class JumpGapTest {
    public static void main(String[] args) {
        jumpEdges();
        jumpsByTrueTime();
        gapEdges();
        gapsByTrueTime();
        placesThatWent();
        couldEdges();
        couldNearestPoints();
        couldRoundsEachUp();
        couldWrong();
        couldFar();
        Check.end();
    }

    private static void jumpEdges() {
        TrackRows t = new TrackRows();
        t.device();
        t.place(0, 0, 100000, 0);
        t.place(0, 5, 100000 - 30, 40);
        t.place(0, 10, 100000 - 60, 81);
        t.place(0, 1010, 0, 81);
        Check.is("jumps", t.has(0, 3), 2);
        Check.is("first jump", t.jump(0, 0), 2);
        Check.is("second jump", t.jump(0, 1), 3);
        Check.is("no third", t.jump(0, 2), TrackRows.NONE);
        Check.is("no jump -1", t.jump(0, -1), TrackRows.NONE);
        t.speed(9);
        Check.is("jumps at 9", t.has(0, 3), 3);
        Check.is("first jump at 9", t.jump(0, 0), 1);
        t.speed(100);
        Check.is("jumps at 100", t.has(0, 3), 0);
        Check.noSuch("no device", () -> t.jump(1, 0));
        Check.noSuch("device -1", () -> t.jump(-1, 0));
    }

    private static void jumpsByTrueTime() {
        TrackRows t = new TrackRows();
        t.device();
        t.place(0, 100, 0, 0);
        t.place(0, 200, 1000, 0);
        t.place(0, 210, 1000, 0);
        Check.is("no jump by its clock", t.has(0, 3), 0);
        t.mark(0, 100, 100);
        t.mark(0, 300, 101);
        Check.is("true time stands still", t.at(0, 1, 3), 100);
        Check.is("one jump", t.has(0, 3), 1);
        Check.is("it", t.jump(0, 0), 1);
    }

    private static void gapEdges() {
        TrackRows t = new TrackRows();
        t.device();
        t.place(0, 0, 0, 0);
        t.place(0, 600, 0, 0);
        t.place(0, 1201, 0, 0);
        t.place(0, 1202, 0, 0);
        t.place(0, 3000, 0, 0);
        Check.is("gaps", t.has(0, 4), 2);
        Check.is("gap 0", t.gap(0, 0), 2);
        Check.is("gap 1", t.gap(0, 1), 4);
        Check.is("no gap 2", t.gap(0, 2), TrackRows.NONE);
        Check.is("no gap -1", t.gap(0, -1), TrackRows.NONE);
        t.limit(599);
        Check.is("gap 0 with 599", t.gap(0, 0), 1);
        t.limit(1);
        Check.is("a second is no gap", t.has(0, 4), 3);
        Check.noSuch("no device", () -> t.gap(1, 0));
        t.place(0, 300, 0, 0);
        t.limit(600);
        Check.is("a place told late moves them", t.gap(0, 0), 3);
    }

    private static void gapsByTrueTime() {
        TrackRows t = new TrackRows();
        t.device();
        t.place(0, 0, 0, 0);
        t.place(0, 100, 0, 0);
        t.place(0, 1100, 0, 0);
        t.mark(0, 0, 0);
        t.mark(0, 100, 601);
        t.mark(0, 1100, 1201);
        Check.is("gaps", t.has(0, 4), 1);
        Check.is("gap 0", t.gap(0, 0), 1);
    }

    private static void couldEdges() {
        TrackRows t = new TrackRows();
        t.device();
        t.place(0, 0, 999, 0);
        t.place(0, 1000, 999, 0);
        Check.is("own cell", t.could(0, 0, 0, 0), true);
        Check.is("500 seconds there and back", t.could(0, 0, 5, 0), true);
        t.place(0, 3000, 0, 0);
        Check.is("west 9001, 901 each way", t.could(0, 1, -10, 0), true);
        Check.is("west 10001, from 0 1001, from 999 1100", t.could(0, 1, -11, 0), false);
        Check.is("north 9000", t.could(0, 1, 0, 9), true);
        Check.is("north 10000 is just 1000 each way", t.could(0, 1, 0, 10), true);
        Check.is("north 11000", t.could(0, 1, 0, 11), false);
        t.speed(9);
        Check.is("north 10000, slower", t.could(0, 1, 0, 10), false);
    }

    private static void placesThatWent() {
        TrackRows t = new TrackRows();
        t.device();
        t.place(0, 0, 0, 0);
        t.place(0, 1000, 50000, 0);
        t.feed(0);
        t.feed(0);
        t.feed(0);
        Check.is("jumps before", t.has(0, 3), 1);
        Check.is("gaps before", t.has(0, 4), 1);
        Check.is("one place is read", t.read(0), 1);
        Check.is("jumps", t.has(0, 3), 0);
        Check.is("gaps", t.has(0, 4), 0);
        Check.is("jump", t.jump(0, 0), TrackRows.NONE);
        Check.is("gap", t.gap(0, 0), TrackRows.NONE);
        Check.noSuch("could", () -> t.could(0, 0, 0, 0));
    }

    /** At 1 metre a second: the cell's first and last metre in each direction. */
    private static void couldNearestPoints() {
        TrackRows t = new TrackRows();
        t.limit(1);
        t.speed(1);
        int[][] at = {{3010, 2500}, {1989, 2500}, {2500, 3010}, {2500, 1989}};
        for (int d = 0; d < 4; d++) {
            t.device();
            t.place(d, 0, at[d][0], at[d][1]);
            t.place(d, 22, at[d][0], at[d][1]);
            t.place(d, 43, at[d][0], at[d][1]);
            Check.is("11 metres and 11 in 22 seconds", t.could(d, 0, 2, 2), true);
            Check.is("11 metres and 11 in 21 seconds", t.could(d, 1, 2, 2), false);
        }
    }

    private static void couldRoundsEachUp() {
        TrackRows t = new TrackRows();
        t.device();
        t.limit(1);
        t.place(0, 0, 995, 0);
        t.place(0, 2, 1994, 0);
        Check.is("5 metres are one second, and in the cell none", t.could(0, 0, 1, 0), true);
        t.device();
        t.place(1, 0, 995, 500);
        t.place(1, 2, 2004, 500);
        Check.is("5 and 5 metres: one second each", t.could(1, 0, 1, 0), true);
        t.device();
        t.place(2, 0, 985, 500);
        t.place(2, 3, 2004, 500);
        Check.is("15 and 5 metres: two and one", t.could(2, 0, 1, 0), true);
        t.device();
        t.place(3, 0, 985, 500);
        t.place(3, 3, 2014, 500);
        Check.is("15 and 15 metres: two and two, not three", t.could(3, 0, 1, 0), false);
        t.device();
        t.place(4, 0, 994, 992);
        t.place(4, 2, 1000, 1000);
        Check.is("6 and 8 are just 10", t.could(4, 0, 1, 1), true);
        t.place(4, 4, 993, 992);
        Check.is("7 and 8 are more: two seconds back", t.could(4, 1, 1, 1), true);
        Check.is("from there to the far cell", t.could(4, 1, 2, 1), false);
    }

    private static void couldWrong() {
        TrackRows t = new TrackRows();
        t.device();
        Check.noSuch("no gap", () -> t.could(0, 0, 0, 0));
        t.place(0, 0, 0, 0);
        t.place(0, 601, 0, 0);
        Check.is("a gap", t.could(0, 0, 0, 0), true);
        Check.noSuch("gap 1", () -> t.could(0, 1, 0, 0));
        Check.noSuch("gap -1", () -> t.could(0, -1, 0, 0));
        Check.noSuch("gap before cell", () -> t.could(0, 1, 201, 0));
        Check.noSuch("device before cell", () -> t.could(1, 0, 201, 0));
        Check.notTold("i 201", () -> t.could(0, 0, 201, 0));
        Check.notTold("i -201", () -> t.could(0, 0, -201, 0));
        Check.notTold("j 201", () -> t.could(0, 0, 0, 201));
        Check.notTold("j -201", () -> t.could(0, 0, 0, -201));
        Check.is("i 200", t.could(0, 0, 200, -200), false);
        t.limit(601);
        Check.noSuch("no gap any more", () -> t.could(0, 0, 0, 0));
    }

    private static void couldFar() {
        TrackRows t = new TrackRows();
        t.device();
        t.place(0, 0, -100000, -100000);
        t.place(0, 1000000, -100000, -100000);
        t.speed(1);
        Check.is("the farthest cell in 2 times 424265 seconds", t.could(0, 0, 200, 200), true);
        t.mark(0, 0, 0);
        t.mark(0, 1000000, 848529);
        Check.is("a second too few", t.could(0, 0, 200, 200), false);
        t.device();
        t.place(1, 0, -100000, -100000);
        t.place(1, 1000000, -100000, -100000);
        t.mark(1, 0, 0);
        t.mark(1, 1000000, 848530);
        Check.is("just enough", t.could(1, 0, 200, 200), true);
    }
}
