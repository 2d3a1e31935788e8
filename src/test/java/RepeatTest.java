/** Promise 21: repeat. */
public final class RepeatTest {
    public static void main(String[] args) {
        alike();
        noOverlap();
        everyPartCounts();
        northward();
        placesThatWent();
        firstOfSeveral();
        thirty();
        clockSeconds();
        wrong();
        Check.end();
    }

    private static TrackRows ofSteps(int... eastward) {
        TrackRows t = new TrackRows();
        t.device();
        int x = 0;
        t.place(0, 0, 0, 0);
        for (int k = 0; k < eastward.length; k++) {
            x += eastward[k];
            t.place(0, 10 * (k + 1), x, 0);
        }
        return t;
    }

    private static void alike() {
        TrackRows t = ofSteps(5, 5);
        Check.is("by 1", t.repeat(0, 1), 1);
        Check.is("by 2", t.repeat(0, 2), TrackRows.NONE);
        Check.is("one step", ofSteps(5).repeat(0, 1), TrackRows.NONE);
        Check.is("no step", ofSteps().repeat(0, 1), TrackRows.NONE);
        TrackRows empty = new TrackRows();
        empty.device();
        Check.is("no place", empty.repeat(0, 1), TrackRows.NONE);
        Check.is("no place, 30", empty.repeat(0, 30), TrackRows.NONE);
    }

    private static void noOverlap() {
        Check.is("three alike by 2", ofSteps(5, 5, 5).repeat(0, 2), TrackRows.NONE);
        Check.is("four alike by 2", ofSteps(5, 5, 5, 5).repeat(0, 2), 2);
        Check.is("1 2 1 2 by 2", ofSteps(1, 2, 1, 2).repeat(0, 2), 2);
        Check.is("1 2 1 2 1 by 3", ofSteps(1, 2, 1, 2, 1).repeat(0, 3), TrackRows.NONE);
        Check.is("1 2 3 1 2 by 3", ofSteps(1, 2, 3, 1, 2).repeat(0, 3), TrackRows.NONE);
        Check.is("1 2 3 1 2 by 2", ofSteps(1, 2, 3, 1, 2).repeat(0, 2), 3);
    }

    private static void everyPartCounts() {
        TrackRows t = new TrackRows();
        t.device();
        t.place(0, 0, 0, 0);
        t.place(0, 10, 1, 1);
        t.place(0, 21, 2, 2);
        t.place(0, 31, 4, 3);
        t.place(0, 41, 5, 5);
        Check.is("second, x or y differ", t.repeat(0, 1), TrackRows.NONE);
        t.place(0, 51, 6, 6);
        Check.is("as the first", t.repeat(0, 1), 4);
    }

    private static void northward() {
        TrackRows t = new TrackRows();
        t.device();
        t.place(0, 0, 0, 50);
        t.place(0, 5, 0, 57);
        t.place(0, 9, 0, 60);
        t.place(0, 14, 0, 67);
        t.place(0, 18, 0, 70);
        Check.is("by 1", t.repeat(0, 1), 2);
        Check.is("by 2", t.repeat(0, 2), 2);
    }

    private static void placesThatWent() {
        TrackRows t = ofSteps(5, 5, 5, 5);
        for (int b : new int[] {0, 0, 0, 20, 10, 0}) {
            t.feed(b);
        }
        Check.is("only the first step is read", t.read(0), 2);
        Check.is("steps of before do not count", t.repeat(0, 1), TrackRows.NONE);
        t.place(0, 20, 10, 0);
        Check.is("told again", t.repeat(0, 1), 1);
    }

    private static void firstOfSeveral() {
        TrackRows t = ofSteps(9, 1, 2, 3, 2, 3, 1, 2, 9, 9);
        Check.is("by 1", t.repeat(0, 1), 4);
        Check.is("by 2", t.repeat(0, 2), 4);
        Check.is("by 3", t.repeat(0, 3), TrackRows.NONE);
        Check.is("2 3 before 1 2", ofSteps(1, 2, 3, 7, 1, 2, 3, 7).repeat(0, 3), 4);
        Check.is("at the very end", ofSteps(1, 2, 3, 4, 5, 4, 5).repeat(0, 2), 5);
    }

    private static void thirty() {
        int[] steps = new int[59];
        for (int k = 0; k < 59; k++) {
            steps[k] = k % 29;
        }
        TrackRows t = ofSteps(steps);
        Check.is("29 again", t.repeat(0, 29), 29);
        Check.is("30 do not fit in 59", t.repeat(0, 30), TrackRows.NONE);
        Check.is("28", t.repeat(0, 28), 29);
    }

    private static void clockSeconds() {
        TrackRows t = ofSteps(4, 4);
        t.mark(0, 0, 0);
        t.mark(0, 10, 100);
        Check.is("by the clock's seconds, not the true ones", t.repeat(0, 1), 1);
    }

    private static void wrong() {
        TrackRows t = ofSteps(1, 1);
        Check.notTold("n 0", () -> t.repeat(0, 0));
        Check.notTold("n -1", () -> t.repeat(0, -1));
        Check.notTold("n 31", () -> t.repeat(0, 31));
        Check.is("n 30", t.repeat(0, 30), TrackRows.NONE);
        Check.noSuch("device before n", () -> t.repeat(1, 0));
        Check.noSuch("device -1", () -> t.repeat(-1, 1));
    }
}
