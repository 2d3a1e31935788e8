/** Promises 3, 4 and 5: place, has, at. */
public final class PlaceTest {
    public static void main(String[] args) {
        late();
        twice();
        bounds();
        full();
        ofWhatAndWhere();
        Check.end();
    }

    private static void row(TrackRows t, int device, int place, int second, int x, int y) {
        Check.is("second of " + place, t.at(device, place, 0), second);
        Check.is("x of " + place, t.at(device, place, 1), x);
        Check.is("y of " + place, t.at(device, place, 2), y);
        Check.is("true time of " + place, t.at(device, place, 3), second);
    }

    private static void late() {
        TrackRows t = new TrackRows();
        t.device();
        t.device();
        Check.is("first", t.place(1, 500, 1, -1), 0);
        Check.is("behind", t.place(1, 700, 2, -2), 1);
        Check.is("before all", t.place(1, 100, 3, -3), 0);
        Check.is("between", t.place(1, 600, 4, -4), 2);
        Check.is("next second", t.place(1, 601, 5, -5), 3);
        row(t, 1, 0, 100, 3, -3);
        row(t, 1, 1, 500, 1, -1);
        row(t, 1, 2, 600, 4, -4);
        row(t, 1, 3, 601, 5, -5);
        row(t, 1, 4, 700, 2, -2);
        Check.is("places", t.has(1, 0), 5);
        Check.is("places of the other device", t.has(0, 0), 0);
    }

    private static void twice() {
        TrackRows t = new TrackRows();
        t.device();
        t.device();
        t.place(0, 5, 6, 7);
        t.place(1, 5, 6, 7);
        Check.is("the same again", t.place(0, 5, 6, 7), TrackRows.TWICE);
        Check.is("and again", t.place(0, 5, 6, 7), TrackRows.TWICE);
        Check.notTold("another x", () -> t.place(0, 5, 7, 7));
        Check.notTold("another y", () -> t.place(0, 5, 6, 6));
        Check.notTold("x and y changed about", () -> t.place(0, 5, 7, 6));
        Check.is("how often twice", t.has(0, 1), 2);
        Check.is("the other device", t.has(1, 1), 0);
        Check.is("places", t.has(0, 0), 1);
        row(t, 0, 0, 5, 6, 7);
    }

    private static void bounds() {
        TrackRows t = new TrackRows();
        t.device();
        Check.is("least", t.place(0, 0, -100000, -100000), 0);
        Check.is("greatest", t.place(0, 1000000, 100000, 100000), 1);
        Check.notTold("second -1", () -> t.place(0, -1, 0, 0));
        Check.notTold("second 1000001", () -> t.place(0, 1000001, 0, 0));
        Check.notTold("x -100001", () -> t.place(0, 1, -100001, 0));
        Check.notTold("x 100001", () -> t.place(0, 1, 100001, 0));
        Check.notTold("y -100001", () -> t.place(0, 1, 0, -100001));
        Check.notTold("y 100001", () -> t.place(0, 1, 0, 100001));
        Check.noSuch("device before numbers", () -> t.place(1, -1, 0, 0));
        Check.noSuch("device -1", () -> t.place(-1, 0, 0, 0));
        Check.is("nothing changed", t.has(0, 0), 2);
    }

    private static void full() {
        TrackRows t = new TrackRows();
        t.device();
        t.device();
        for (int k = 0; k < 60; k++) {
            Check.is("place " + k, t.place(0, 2 * (59 - k), k, -k), 0);
        }
        Check.tooMany("a 61st place", () -> t.place(0, 1, 0, 0));
        Check.notTold("wrong before too many", () -> t.place(0, 1, 100001, 0));
        Check.notTold("another with this second before too many", () -> t.place(0, 2, 0, 0));
        Check.is("twice where it is full", t.place(0, 0, 59, -59), TrackRows.TWICE);
        Check.is("still 60", t.has(0, 0), 60);
        Check.is("one twice", t.has(0, 1), 1);
        row(t, 0, 59, 118, 0, 0);
        Check.is("the other device has room", t.place(1, 1, 0, 0), 0);
    }

    private static void ofWhatAndWhere() {
        TrackRows t = new TrackRows();
        t.device();
        t.place(0, 3, 4, 5);
        Check.notTold("has what 5", () -> t.has(0, 5));
        Check.notTold("has what -1", () -> t.has(0, -1));
        Check.noSuch("has of no device", () -> t.has(1, 5));
        Check.noSuch("at place 1", () -> t.at(0, 1, 0));
        Check.noSuch("at place -1", () -> t.at(0, -1, 0));
        Check.noSuch("at device 1", () -> t.at(1, 0, 0));
        Check.noSuch("at place before what", () -> t.at(0, 1, 4));
        Check.notTold("at what 4", () -> t.at(0, 0, 4));
        Check.notTold("at what -1", () -> t.at(0, 0, -1));
    }
}
