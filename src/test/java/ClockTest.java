/** Promises 6 and 7, and what of promises 4 and 5 is about marks: mark, time. */
public final class ClockTest {
    public static void main(String[] args) {
        withoutMarks();
        oneMark();
        between();
        besideOthers();
        full();
        greatNumbers();
        Check.end();
    }

    private static void withoutMarks() {
        TrackRows t = new TrackRows();
        t.device();
        Check.is("time 0", t.time(0, 0), 0);
        Check.is("time 1000000", t.time(0, 1000000), 1000000);
        Check.notTold("time -1", () -> t.time(0, -1));
        Check.notTold("time 1000001", () -> t.time(0, 1000001));
        Check.noSuch("no device", () -> t.time(1, -1));
        Check.is("no marks", t.has(0, 2), 0);
    }

    private static void oneMark() {
        TrackRows t = new TrackRows();
        t.device();
        t.device();
        Check.is("mark", t.mark(0, 1000000, 0), 1);
        Check.is("before the only mark", t.time(0, 0), -1000000);
        Check.is("at it", t.time(0, 1000000), 0);
        t.place(0, 999999, 1, 1);
        Check.is("true time of a place", t.at(0, 0, 3), -1);
        Check.is("its second stays", t.at(0, 0, 0), 999999);
        Check.is("mark at 0", t.mark(1, 0, 1000000), 1);
        Check.is("behind the only mark", t.time(1, 1000000), 2000000);
    }

    private static void between() {
        TrackRows t = new TrackRows();
        t.device();
        t.mark(0, 10, 100);
        t.mark(0, 17, 102);
        t.mark(0, 20, 200);
        Check.is("at 9", t.time(0, 9), 99);
        Check.is("at the first", t.time(0, 10), 100);
        Check.is("a little behind, downward", t.time(0, 13), 100);
        Check.is("half", t.time(0, 14), 101);
        Check.is("just before", t.time(0, 16), 101);
        Check.is("at the second", t.time(0, 17), 102);
        Check.is("in the steep one", t.time(0, 18), 134);
        Check.is("in the steep one again", t.time(0, 19), 167);
        Check.is("at the last", t.time(0, 20), 200);
        Check.is("behind the last", t.time(0, 25), 205);
        t.mark(0, 21, 300);
        Check.is("at a mark a second later", t.time(0, 21), 300);
        Check.is("behind it", t.time(0, 22), 301);
    }

    private static void besideOthers() {
        TrackRows t = new TrackRows();
        t.device();
        Check.is("a mark", t.mark(0, 100, 50), 1);
        Check.notTold("the same one again", () -> t.mark(0, 100, 50));
        Check.notTold("same second, later", () -> t.mark(0, 100, 51));
        Check.notTold("same second, earlier", () -> t.mark(0, 100, 49));
        Check.notTold("later with the same time", () -> t.mark(0, 101, 50));
        Check.notTold("later with a lesser time", () -> t.mark(0, 101, 49));
        Check.notTold("earlier with the same time", () -> t.mark(0, 99, 50));
        Check.notTold("earlier with a greater time", () -> t.mark(0, 99, 51));
        Check.is("later", t.mark(0, 101, 51), 2);
        Check.is("earlier", t.mark(0, 99, 49), 3);
        Check.notTold("second -1", () -> t.mark(0, -1, 0));
        Check.notTold("second 1000001", () -> t.mark(0, 1000001, 1000000));
        Check.notTold("time -1", () -> t.mark(0, 0, -1));
        Check.notTold("time 1000001", () -> t.mark(0, 1000000, 1000001));
        Check.noSuch("no device", () -> t.mark(1, -1, -1));
        Check.is("marks", t.has(0, 2), 3);
    }

    private static void full() {
        TrackRows t = new TrackRows();
        t.device();
        for (int k = 0; k < 8; k++) {
            Check.is("mark " + k, t.mark(0, 700 - 100 * k, 7000 - 1000 * k), k + 1);
        }
        Check.tooMany("a ninth mark", () -> t.mark(0, 50, 500));
        Check.notTold("wrong before too many", () -> t.mark(0, 50, 1000));
        Check.notTold("one is there before too many", () -> t.mark(0, 100, 1000));
        Check.is("marks", t.has(0, 2), 8);
        Check.is("time", t.time(0, 55), 550);
        Check.is("time behind", t.time(0, 755), 7055);
    }

    private static void greatNumbers() {
        TrackRows t = new TrackRows();
        t.device();
        t.mark(0, 0, 0);
        t.mark(0, 999999, 1000000);
        Check.is("no wrapping", t.time(0, 999998), 999998);
        Check.is("half way", t.time(0, 500000), 500000);
    }
}
