/** Boundary sentences on steps that repeat themselves and on sights: promises 21 to 25. */
public final class SightEdgeTest {
    private static final int NONE = TrackRows.NONE;

    public static void main(String[] args) {
        noStepsEnough();
        nextToEachOtherButNotAcross();
        upToTheLastStep();
        differencesOfAllThree();
        stepsOfGreatNumbers();
        sixtyAlike();
        firstStepOfAll();
        sightsAtTheEnds();
        withoutPlaces();
        nearestByTrueTime();
        ofTheseTheFirst();
        greatestWeight();
        nothingMatched();
        matchedForNothing();
        oneDeviceAtMost();
        asManyAsThereCanBe();
        leastSumOfAll();
        firstByTheDevices();
        noneIsBehindAll();
        devicesWithoutPlacesAreLeftOut();
        Check.end();
    }

    /** Steps of so many metres eastward, a second each. */
    private static TrackRows steps(int... eastward) {
        TrackRows t = new TrackRows();
        t.device();
        t.place(0, 0, 0, 0);
        int x = 0;
        for (int k = 0; k < eastward.length; k++) {
            x += eastward[k];
            t.place(0, k + 1, x, 0);
        }
        return t;
    }

    // "NONE if there is none": without places, steps, or as many of them as are asked for
    private static void noStepsEnough() {
        TrackRows none = new TrackRows();
        none.device();
        for (int n : new int[] {1, 2, 29, 30}) {
            Check.is("no place, n " + n, none.repeat(0, n), NONE);
            Check.is("one place, n " + n, steps().repeat(0, n), NONE);
            Check.is("one step, n " + n, steps(4).repeat(0, n), NONE);
        }
        Check.is("two steps, n 1", steps(4, 4).repeat(0, 1), 1);
        Check.is("three steps, n 2", steps(4, 4, 4).repeat(0, 2), NONE);
        Check.is("four steps, n 2", steps(4, 4, 4, 4).repeat(0, 2), 2);
    }

    // "with i + n at most j": just j is enough, and less is not
    private static void nextToEachOtherButNotAcross() {
        Check.is("1 2 3 1 2 3, n 3", steps(1, 2, 3, 1, 2, 3).repeat(0, 3), 3);
        Check.is("1 1 2 1 1 2, n 3", steps(1, 1, 2, 1, 1, 2).repeat(0, 3), 3);
        Check.is("7 1 1 1, n 2", steps(7, 1, 1, 1).repeat(0, 2), NONE);
        Check.is("7 1 1 1 1, n 2", steps(7, 1, 1, 1, 1).repeat(0, 2), 3);
        Check.is("1 2 1 2 1, n 3", steps(1, 2, 1, 2, 1).repeat(0, 3), NONE);
        Check.is("1 2 1 2 1 2, n 3", steps(1, 2, 1, 2, 1, 2).repeat(0, 3), NONE);
        Check.is("1 2 1 7 1 2 1, n 3", steps(1, 2, 1, 7, 1, 2, 1).repeat(0, 3), 4);
    }

    // "steps i, i + 1, .. are as steps j, j + 1, .., n of each": the last of them, too
    private static void upToTheLastStep() {
        Check.is("1 2 3 7 1 2 3, n 3", steps(1, 2, 3, 7, 1, 2, 3).repeat(0, 3), 4);
        Check.is("1 2 3 7 1 2 4, n 3", steps(1, 2, 3, 7, 1, 2, 4).repeat(0, 3), NONE);
        Check.is("1 2 3 7 1 2, n 3", steps(1, 2, 3, 7, 1, 2).repeat(0, 3), NONE);
        Check.is("1 2 3 7 0 2 3, n 3", steps(1, 2, 3, 7, 0, 2, 3).repeat(0, 3), NONE);
        Check.is("1 2 3 7 1 0 3, n 3", steps(1, 2, 3, 7, 1, 0, 3).repeat(0, 3), NONE);
    }

    private static int ofTwoSteps(int second, int x, int y) {
        TrackRows t = new TrackRows();
        t.device();
        t.place(0, 100, 10, 20);
        t.place(0, 105, 14, 17);
        t.place(0, second, x, y);
        return t.repeat(0, 1);
    }

    // "STEPS are differences, second, x, y"
    private static void differencesOfAllThree() {
        Check.is("alike", ofTwoSteps(110, 18, 14), 1);
        Check.is("a second more", ofTwoSteps(111, 18, 14), NONE);
        Check.is("a second less", ofTwoSteps(109, 18, 14), NONE);
        Check.is("another x", ofTwoSteps(110, 19, 14), NONE);
        Check.is("another y", ofTwoSteps(110, 18, 13), NONE);
        Check.is("back", ofTwoSteps(110, 10, 20), NONE);
        Check.is("x and y changed about", ofTwoSteps(110, 11, 21), NONE);
    }

    private static void stepsOfGreatNumbers() {
        TrackRows t = new TrackRows();
        t.device();
        t.place(0, 0, -100000, 100000);
        t.place(0, 500000, 0, 0);
        t.place(0, 1000000, 100000, -100000);
        Check.is("from end to end", t.repeat(0, 1), 1);
        t.mark(0, 0, 0);
        t.mark(0, 500000, 7);
        Check.is("by the clock, whatever the true times", t.repeat(0, 1), 1);
    }

    // "n steps, 1 .. 30": 59 steps are 29 and 29, and one more
    private static void sixtyAlike() {
        int[] alike = new int[59];
        TrackRows t = steps(alike);
        for (int n = 1; n < 30; n++) {
            Check.is("n " + n, t.repeat(0, n), n);
        }
        Check.is("n 30", t.repeat(0, 30), NONE);
        alike[58] = 5;
        TrackRows u = steps(alike);
        Check.is("58 alike, n 29", u.repeat(0, 29), 29);
        alike[57] = 6;
        TrackRows v = steps(alike);
        Check.is("57 alike, n 29", v.repeat(0, 29), NONE);
        Check.is("57 alike, n 28", v.repeat(0, 28), 28);
    }

    // "The first step at which a device REPEATS itself"
    private static void firstStepOfAll() {
        Check.is("as the one before", steps(1, 2, 3, 3, 1).repeat(0, 1), 3);
        Check.is("as the first, before another", steps(1, 2, 3, 1, 3, 3).repeat(0, 1), 3);
        TrackRows t = steps(1, 2, 3, 4, 4);
        Check.is("before a late place", t.repeat(0, 1), 4);
        t.place(0, 6, 19, 0);
        Check.is("with a step more", t.repeat(0, 1), 4);
        Check.is("by 2", t.repeat(0, 2), NONE);
    }

    private static TrackRows at(int... xs) {
        TrackRows t = new TrackRows();
        for (int x : xs) {
            t.place(t.device(), 0, x, 0);
        }
        return t;
    }

    private static void see(TrackRows t, int... xs) {
        for (int x : xs) {
            t.sight(0, x, 0);
        }
    }

    private static void matches(String what, TrackRows t, long sum, int... due) {
        for (int s = 0; s < due.length; s++) {
            Check.is(what + ": match(" + s + ")", t.match(s), due[s]);
        }
        Check.is(what + ": matched()", t.matched(), sum);
    }

    // "Seconds 0 .. 1000000, x and y -100000 .. 100000": kept as they were told
    private static void sightsAtTheEnds() {
        TrackRows t = new TrackRows();
        t.device();
        t.place(0, 0, -100000, 100000);
        t.place(0, 1000000, 100000, -100000);
        Check.is("sight", t.sight(0, -100000, 99999), 0);
        Check.is("sight", t.sight(1000000, 99998, -100000), 1);
        Check.is("sight", t.sight(0, 100000, 100000), 2);
        Check.is("sight", t.sight(1000000, 100000, 100000), 3);
        long[] due = {1, 4, 40000000000L, 40000000000L};
        for (int s = 0; s < 4; s++) {
            Check.is("weight of sight " + s, t.weight(s, 0), due[s]);
        }
    }

    // "NONE without places"
    private static void withoutPlaces() {
        TrackRows t = at();
        t.device();
        see(t, 0);
        t.mark(0, 0, 0);
        Check.is("no place", t.weight(0, 0), NONE);
        t.place(0, 0, 0, 0);
        Check.is("a place just there", t.weight(0, 0), 0);
        t.read(0);
        Check.is("places that went", t.weight(0, 0), NONE);
        Check.is("nor matched", t.match(0), NONE);
    }

    // "whose true time is nearest to the sight's"
    private static void nearestByTrueTime() {
        TrackRows t = new TrackRows();
        t.device();
        t.place(0, 100, 1, 0);
        t.place(0, 200, 2, 0);
        t.place(0, 300, 3, 0);
        int[] times = {0, 149, 151, 1000000};
        int[] weights = {1, 1, 4, 9};
        for (int s = 0; s < 4; s++) {
            t.sight(times[s], 0, 0);
            Check.is("weight at " + times[s], t.weight(s, 0), weights[s]);
        }
        t.mark(0, 300, 0);
        Check.is("true times -200, -100, 0", t.weight(0, 0), 9);
        TrackRows u = new TrackRows();
        u.device();
        u.place(0, 100, 1, 0);
        u.place(0, 200, 2, 0);
        u.mark(0, 150, 1000000);
        u.sight(1000000, 0, 0);
        Check.is("true times 999950 and 1000050", u.weight(0, 0), 1);
        u.sight(999999, 0, 0);
        Check.is("nearer to the first", u.weight(1, 0), 1);
        u.place(0, 151, 5, 0);
        Check.is("true time 1000001", u.weight(0, 0), 25);
    }

    // "of these the first one"
    private static void ofTheseTheFirst() {
        TrackRows t = new TrackRows();
        t.device();
        t.place(0, 160, 6, 0);
        t.place(0, 140, 4, 0);
        t.sight(150, 0, 0);
        Check.is("10 seconds before and behind", t.weight(0, 0), 16);
        t.mark(0, 140, 145);
        t.mark(0, 1000, 146);
        Check.is("both at 145", t.weight(0, 0), 16);
        t.place(0, 139, 7, 0);
        Check.is("one at 144 before them", t.weight(0, 0), 16);
        t.place(0, 141, 9, 0);
        Check.is("one at 145 between them", t.weight(0, 0), 16);
    }

    // "the square of the distance", beyond 32 bits
    private static void greatestWeight() {
        TrackRows t = new TrackRows();
        for (int k = 0; k < 5; k++) {
            t.place(t.device(), 0, 100000, -100000);
            t.sight(0, -100000, 100000);
        }
        Check.is("weight", t.weight(4, 4), 80000000000L);
        matches("five of them", t, 400000000000L, 0, 1, 2, 3, 4);
    }

    // "0 if none is"; "NONE if there is none"
    private static void nothingMatched() {
        TrackRows t = new TrackRows();
        matches("nothing", t, 0);
        see(t, 5);
        matches("no device", t, 0, NONE);
        t.device();
        matches("no place", t, 0, NONE);
        TrackRows u = at(1, 2, 3);
        matches("no sight", u, 0);
    }

    private static void matchedForNothing() {
        TrackRows t = at(5);
        see(t, 5);
        matches("a weight of 0", t, 0, 0);
    }

    // "each sight has one device at most, each device one sight at most"
    private static void oneDeviceAtMost() {
        TrackRows t = at(0, 1000);
        see(t, 1, 2);
        matches("both nearer to one", t, 1 + 998L * 998, 0, 1);
        TrackRows u = at(0);
        see(u, 3, 2, 1, 2, 3);
        matches("five sights, one device", u, 1, NONE, NONE, 0, NONE, NONE);
        TrackRows v = at(30, 20, 10, 20, 30);
        see(v, 0);
        matches("one sight, five devices", v, 100, 2);
    }

    // "as many as there can be", however great the sum
    private static void asManyAsThereCanBe() {
        TrackRows t = at(-100000, -100000, -100000, -100000, -100000);
        see(t, -100000, 100000, 100000, 100000, 100000);
        matches("far", t, 160000000000L, 0, 1, 2, 3, 4);
        TrackRows u = at(0, 100000);
        see(u, 0, 0);
        matches("one for nothing, and one far", u, 10000000000L, 0, 1);
    }

    // "one with the least sum of weights": not the least for each in turn
    private static void leastSumOfAll() {
        TrackRows t = at(0, 10);
        see(t, 9, 13);
        matches("1 and 169, or 81 and 9", t, 90, 0, 1);
        TrackRows u = at(0, 10, 20, 30, 40);
        see(u, 41, 31, 21, 11, 1);
        matches("turned about", u, 5, 4, 3, 2, 1, 0);
        TrackRows v = at(0, 10, 20, 30, 40);
        see(v, 39, 49, 9, 19, 29);
        matches("moved by one, or by nine", v, 5 * 81, 3, 4, 0, 1, 2);
    }

    // "of these the first by the devices of sights 0, 1, .."
    private static void firstByTheDevices() {
        TrackRows t = at(7, 7, 7, 7, 7);
        see(t, 1, 2, 3);
        matches("all alike", t, 36 + 25 + 16, 0, 1, 2);
        TrackRows u = at(0, 2);
        see(u, 1, 1);
        matches("between two", u, 2, 0, 1);
        TrackRows v = at(5, 0, 5);
        see(v, 5, 0, 5);
        matches("the first and the last alike", v, 0, 0, 1, 2);
        TrackRows w = at(9, 5, 5);
        see(w, 5, 5);
        matches("the least ones are not the first", w, 0, 1, 2);
    }

    // "(none counts as behind all)"
    private static void noneIsBehindAll() {
        TrackRows t = at(0);
        see(t, 1, -1, 1);
        matches("three alike, one device", t, 1, 0, NONE, NONE);
        TrackRows u = at(0, 100);
        see(u, 50, 50, 50);
        matches("two devices", u, 5000, 0, 1, NONE);
        TrackRows v = at(100, 0);
        see(v, 0, 0, 100);
        matches("the last device rather than none", v, 0, 1, NONE, 0);
    }

    // "devices without places have none"
    private static void devicesWithoutPlacesAreLeftOut() {
        TrackRows t = new TrackRows();
        for (int k = 0; k < 5; k++) {
            t.device();
        }
        see(t, 1, 2);
        matches("none has places", t, 0, NONE, NONE);
        t.place(4, 0, 2, 0);
        matches("only the last", t, 0, NONE, 4);
        t.place(2, 0, 90000, 0);
        // 1 and the square of 89998 are less than 0 and the square of 89999.
        matches("a far one, too", t, 1 + 89998L * 89998, 4, 2);
        t.read(4);
        matches("the last has none any more", t, 89998L * 89998, NONE, 2);
    }
}
