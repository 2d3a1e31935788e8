/** Promises 22 to 25: sight, weight, matched, match. */
public final class MatchTest {
    public static void main(String[] args) {
        sights();
        weights();
        weightsByTrueTime();
        nothing();
        leastSum();
        asManyAsCanBe();
        firstOfEqual();
        noneIsLast();
        noneFirst();
        matchAlone();
        moreDevices();
        great();
        Check.end();
    }

    private static TrackRows withDevicesAt(int... xs) {
        TrackRows t = new TrackRows();
        for (int x : xs) {
            t.place(t.device(), 0, x, 0);
        }
        return t;
    }

    private static void matches(TrackRows t, long sum, int... due) {
        Check.is("matched", t.matched(), sum);
        for (int s = 0; s < due.length; s++) {
            Check.is("match of " + s, t.match(s), due[s]);
        }
        Check.is("matched again", t.matched(), sum);
    }

    private static void sights() {
        TrackRows t = new TrackRows();
        Check.is("sight", t.sight(0, -100000, 100000), 0);
        Check.is("sight", t.sight(1000000, 100000, -100000), 1);
        Check.notTold("time -1", () -> t.sight(-1, 0, 0));
        Check.notTold("time 1000001", () -> t.sight(1000001, 0, 0));
        Check.notTold("x -100001", () -> t.sight(0, -100001, 0));
        Check.notTold("x 100001", () -> t.sight(0, 100001, 0));
        Check.notTold("y -100001", () -> t.sight(0, 0, -100001));
        Check.notTold("y 100001", () -> t.sight(0, 0, 100001));
        Check.is("told(2)", t.told(2), 2);
        Check.is("an earlier one, at the same second", t.sight(0, 0, 0), 2);
        Check.is("sight", t.sight(0, 0, 0), 3);
        Check.is("sight", t.sight(0, 0, 0), 4);
        Check.tooMany("a sixth sight", () -> t.sight(0, 0, 0));
        Check.notTold("wrong before too many", () -> t.sight(0, 0, 100001));
        Check.is("told(2) at the end", t.told(2), 5);
    }

    private static void weights() {
        TrackRows t = new TrackRows();
        t.device();
        t.sight(150, 3, 4);
        Check.is("without places", t.weight(0, 0), TrackRows.NONE);
        t.place(0, 200, 3, 5);
        Check.is("one place", t.weight(0, 0), 1);
        t.place(0, 100, 0, 0);
        Check.is("as near: the first", t.weight(0, 0), 25);
        t.place(0, 199, 3, 14);
        Check.is("nearer", t.weight(0, 0), 100);
        t.place(0, 150, 3, 4);
        Check.is("at the second", t.weight(0, 0), 0);
        Check.noSuch("sight 1", () -> t.weight(1, 0));
        Check.noSuch("sight -1", () -> t.weight(-1, 0));
        Check.noSuch("device 1", () -> t.weight(0, 1));
        Check.noSuch("device -1", () -> t.weight(0, -1));
    }

    private static void weightsByTrueTime() {
        TrackRows t = new TrackRows();
        t.device();
        t.sight(500, 0, 0);
        t.place(0, 100, 1, 0);
        t.place(0, 110, 2, 0);
        t.place(0, 500, 3, 0);
        Check.is("by its clock", t.weight(0, 0), 9);
        t.mark(0, 100, 499);
        t.mark(0, 200, 500);
        Check.is("two at true second 499: the first", t.weight(0, 0), 1);
        t.sight(1000000, 0, 0);
        Check.is("the last", t.weight(1, 0), 9);
    }

    private static void nothing() {
        TrackRows t = new TrackRows();
        Check.is("nothing at all", t.matched(), 0);
        t.device();
        t.place(0, 0, 5, 0);
        Check.is("no sight", t.matched(), 0);
        TrackRows u = new TrackRows();
        u.sight(0, 0, 0);
        u.device();
        matches(u, 0, TrackRows.NONE);
        Check.noSuch("sight 1", () -> u.match(1));
        Check.noSuch("sight -1", () -> u.match(-1));
    }

    private static void leastSum() {
        TrackRows t = withDevicesAt(0, 10);
        t.sight(0, 6, 0);
        t.sight(0, 30, 0);
        // 36 and 400 is less than 16 and 900.
        matches(t, 436, 0, 1);
        TrackRows u = withDevicesAt(0, 10);
        u.sight(0, 9, 0);
        u.sight(0, -20, 0);
        matches(u, 401, 1, 0);
    }

    private static void asManyAsCanBe() {
        TrackRows t = withDevicesAt(0, 100000);
        t.sight(0, 0, 0);
        matches(t, 0, 0);
        t.sight(0, -100000, 0);
        matches(t, 20000000000L, 1, 0);
        t.sight(0, 1, 0);
        matches(t, 9999800001L, 0, TrackRows.NONE, 1);
    }

    private static void firstOfEqual() {
        TrackRows t = withDevicesAt(5, 5, 5);
        t.sight(0, 1, 0);
        t.sight(0, 2, 0);
        matches(t, 25, 0, 1);
        TrackRows u = withDevicesAt(0, 0, 0, 0, 0);
        for (int k = 0; k < 5; k++) {
            u.sight(0, 7, 0);
        }
        matches(u, 245, 0, 1, 2, 3, 4);
    }

    private static void noneIsLast() {
        TrackRows t = withDevicesAt(0);
        t.sight(0, 3, 0);
        t.sight(0, -3, 0);
        t.sight(0, 0, 3);
        matches(t, 9, 0, TrackRows.NONE, TrackRows.NONE);
        TrackRows u = withDevicesAt(0, 0);
        u.sight(0, 3, 0);
        u.sight(0, 4, 0);
        u.sight(0, 3, 0);
        matches(u, 18, 0, TrackRows.NONE, 1);
    }

    private static void noneFirst() {
        TrackRows t = withDevicesAt(0);
        t.sight(0, 5, 0);
        t.sight(0, 3, 0);
        matches(t, 9, TrackRows.NONE, 0);
        TrackRows u = withDevicesAt(0, 10);
        u.sight(0, 90, 0);
        u.sight(0, 1, 0);
        u.sight(0, 11, 0);
        matches(u, 2, TrackRows.NONE, 0, 1);
    }

    private static void matchAlone() {
        TrackRows t = withDevicesAt(0, 10);
        t.sight(0, 8, 0);
        Check.is("match without matched()", t.match(0), 1);
        t.place(0, 1, 5, 5);
        t.sight(0, 11, 0);
        Check.is("match of the first now", t.match(0), 0);
        Check.is("match of the second", t.match(1), 1);
        t.mark(0, 0, 50);
        Check.is("weight by the same place", t.weight(0, 0), 64);
    }

    private static void moreDevices() {
        TrackRows t = new TrackRows();
        for (int k = 0; k < 5; k++) {
            t.device();
        }
        t.place(1, 0, 50, 0);
        t.place(3, 0, 20, 0);
        t.sight(0, 0, 0);
        matches(t, 400, 3);
        t.sight(0, 21, 0);
        t.sight(0, 1000, 0);
        // 20 and 29 metres are less by their squares than 50 and 1.
        matches(t, 1241, 3, 1, TrackRows.NONE);
        t.place(0, 0, 1000, 0);
        matches(t, 1241, 3, 1, 0);
    }

    private static void great() {
        TrackRows t = new TrackRows();
        for (int k = 0; k < 5; k++) {
            t.place(t.device(), 0, -100000, -100000);
            t.sight(0, 100000, 100000);
        }
        Check.is("weight", t.weight(0, 0), 80000000000L);
        matches(t, 400000000000L, 0, 1, 2, 3, 4);
    }
}
