/** Boundary sentences on objects, devices and places: promises 1 to 5, 8, 9 and 26. */
public final class PlaceEdgeTest {
    private static final int NONE = TrackRows.NONE;

    public static void main(String[] args) {
        newObjectHasNothing();
        newObjectHasSpeed10();
        newObjectHasLimit600();
        objectsShareNothing();
        the512thCall();
        newDeviceHasNothing();
        ends();
        numberNow();
        oneSecondOnce();
        twiceIsJustThat();
        twiceOfAFullDevice();
        hasCountsAnswersOnly();
        whatItWas();
        toldCountsEach();
        Check.end();
    }

    // "No devices, fences, sights, bytes"
    private static void newObjectHasNothing() {
        TrackRows t = new TrackRows();
        for (int what = 0; what < 5; what++) {
            Check.is("told(" + what + ")", t.told(what), 0);
        }
        Check.is("matched()", t.matched(), 0);
        Check.is("device()", t.device(), 0);
        Check.is("fence()", t.fence(), 0);
        Check.is("sight()", t.sight(0, 0, 0), 0);
        Check.is("feed()", t.feed(0), 1);
    }

    // "SPEED 10": 6000 metres in 600 seconds are no jump, one more is.
    private static void newObjectHasSpeed10() {
        TrackRows t = new TrackRows();
        t.device();
        t.place(0, 0, 0, 0);
        t.place(0, 600, 6000, 0);
        Check.is("just 10 metres a second", t.has(0, 3), 0);
        t.place(0, 1200, 12001, 0);
        Check.is("a metre more", t.has(0, 3), 1);
        Check.is("SPEED", t.speed(10), 10);
    }

    // "LIMIT 600"
    private static void newObjectHasLimit600() {
        TrackRows t = new TrackRows();
        t.device();
        t.place(0, 0, 0, 0);
        t.place(0, 600, 0, 0);
        Check.is("just 600 seconds", t.has(0, 4), 0);
        t.place(0, 1201, 0, 0);
        Check.is("a second more", t.has(0, 4), 1);
        Check.is("LIMIT", t.limit(600), 600);
    }

    private static void objectsShareNothing() {
        TrackRows used = new TrackRows();
        TrackRows before = new TrackRows();
        Made.full(used);
        used.speed(3);
        used.limit(4);
        used.repeat(0, 1);
        used.match(0);
        TrackRows behind = new TrackRows();
        for (int part = 0; part < 2; part++) {
            TrackRows t = part == 0 ? before : behind;
            Check.is("devices", t.told(0), 0);
            Check.is("bytes packed", t.told(3), 0);
            Check.is("bytes to be read", t.told(4), 0);
            Check.is("SPEED", t.told(5), 10);
            Check.is("LIMIT", t.told(6), 600);
            Check.is("device", t.device(), 0);
            Check.is("its places", t.has(0, 0), 0);
            Check.is("its marks", t.has(0, 2), 0);
            Check.is("its first place", t.place(0, 10, 7, 7), 0);
        }
    }

    // "at most 512 calls after it has been made": the last ones are answered as the first ones.
    private static void the512thCall() {
        TrackRows t = new TrackRows();
        t.device();
        for (int k = 0; k < 509; k++) {
            Check.is("speed", t.speed(1 + k % 100), k == 0 ? 10 : 1 + (k - 1) % 100);
        }
        Check.is("the 511th call", t.place(0, 1000000, -100000, 100000), 0);
        Check.is("the 512th call", t.at(0, 0, 2), 100000);
    }

    // "A new device: its number."
    private static void newDeviceHasNothing() {
        TrackRows t = new TrackRows();
        for (int d = 0; d < 5; d++) {
            final int device = d;
            Check.noSuch("not there yet", () -> t.has(device, 0));
            Check.is("device()", t.device(), d);
            for (int what = 0; what < 5; what++) {
                Check.is("has(" + d + ", " + what + ")", t.has(d, what), 0);
            }
            Check.is("jump", t.jump(d, 0), NONE);
            Check.is("gap", t.gap(d, 0), NONE);
            Check.is("repeat", t.repeat(d, 1), NONE);
            Check.is("pack", t.pack(d), 0);
            Check.is("time", t.time(d, 77), 77);
            t.place(d, 5, 5, 5);
            t.mark(d, 5, 6);
        }
    }

    // "a SECOND of its clock, 0 .. 1000000, and x and y, -100000 .. 100000": kept as they were told.
    private static void ends() {
        TrackRows t = new TrackRows();
        t.device();
        Check.is("greatest second", t.place(0, 1000000, 100000, -100000), 0);
        Check.is("least second", t.place(0, 0, -100000, 100000), 0);
        Check.is("a second before the greatest", t.place(0, 999999, 99999, -99999), 1);
        Check.is("a second behind the least", t.place(0, 1, -99999, 99999), 1);
        int[][] due = {{0, -100000, 100000}, {1, -99999, 99999}, {999999, 99999, -99999},
            {1000000, 100000, -100000}};
        for (int p = 0; p < 4; p++) {
            for (int what = 0; what < 3; what++) {
                Check.is("at(0, " + p + ", " + what + ")", t.at(0, p, what), due[p][what]);
            }
        }
    }

    // "Places stand, and are numbered from 0 on, by their seconds, whenever they are told"
    private static void numberNow() {
        TrackRows t = new TrackRows();
        t.device();
        int[] seconds = {500, 100, 900, 499, 501, 101, 899, 0, 1000000};
        int[] numbers = {0, 0, 2, 1, 3, 1, 5, 0, 8};
        for (int k = 0; k < seconds.length; k++) {
            Check.is("place at " + seconds[k], t.place(0, seconds[k], k, -k), numbers[k]);
        }
        int[] order = {7, 1, 5, 3, 0, 4, 6, 2, 8};
        for (int p = 0; p < order.length; p++) {
            Check.is("second of " + p, t.at(0, p, 0), seconds[order[p]]);
            Check.is("x of " + p, t.at(0, p, 1), order[p]);
            Check.is("y of " + p, t.at(0, p, 2), -order[p]);
        }
    }

    // "no two of a device have one second"; "also if another one with this second is there"
    private static void oneSecondOnce() {
        Check.notTold("another x", Made::some, t -> t.place(0, 400, 3001, 0));
        Check.notTold("another y", Made::some, t -> t.place(0, 400, 3000, -1));
        Check.notTold("x and y changed about", Made::some, t -> t.place(0, 400, 0, 3000));
        Check.notTold("at the first one's second", Made::some, t -> t.place(0, 100, 1, 0));
        Check.notTold("at the last one's second", Made::some, t -> t.place(0, 2020, 0, 0));
        TrackRows t = new TrackRows();
        Made.some(t);
        Check.is("at that second, of the other device", t.place(1, 400, 1, 1), 0);
        Check.is("a second before", t.place(0, 399, 1, 1), 1);
        Check.is("a second behind", t.place(0, 401, 1, 1), 3);
    }

    // "TWICE, if just that is there already"
    private static void twiceIsJustThat() {
        TrackRows t = new TrackRows();
        t.device();
        t.device();
        t.place(0, 0, 0, 0);
        t.place(0, 1000000, -100000, 100000);
        Check.is("the first", t.place(0, 0, 0, 0), TrackRows.TWICE);
        Check.is("the last", t.place(0, 1000000, -100000, 100000), TrackRows.TWICE);
        Check.is("that of another device", t.place(1, 0, 0, 0), 0);
        Check.is("a new one", t.place(0, 1, 0, 0), 1);
        Check.is("now that, too", t.place(0, 1, 0, 0), TrackRows.TWICE);
        Check.is("places", t.has(0, 0), 3);
        Check.is("TWICE", t.has(0, 1), 3);
        Check.is("TWICE of the other", t.has(1, 1), 0);
    }

    // "there would be more than there may be": a place that is there already makes none more.
    private static void twiceOfAFullDevice() {
        TrackRows t = new TrackRows();
        Made.full(t);
        for (int k = 0; k < 60; k++) {
            Check.is("again", t.place(0, 10 + 10 * k, k % 7, k % 5), TrackRows.TWICE);
        }
        Check.is("places", t.has(0, 0), 60);
        Check.is("TWICE", t.has(0, 1), 60);
    }

    // "how often place() answered TWICE": not how often it was refused, and not less for places that went.
    private static void hasCountsAnswersOnly() {
        TrackRows t = new TrackRows();
        t.device();
        t.place(0, 5, 5, 5);
        Check.is("none yet", t.has(0, 1), 0);
        Check.notTold("another is there", () -> t.place(0, 5, 5, 6));
        Check.is("still none", t.has(0, 1), 0);
        t.place(0, 5, 5, 5);
        Check.is("one", t.has(0, 1), 1);
        Check.is("of no bytes", t.read(0), 0);
        Check.is("still one", t.has(0, 1), 1);
        Check.is("it went, so it is new", t.place(0, 5, 5, 5), 0);
        Check.is("still one", t.has(0, 1), 1);
    }

    // "SPEED, 1 .. 100: what it was", "LIMIT, 1 .. 100000: what it was"
    private static void whatItWas() {
        TrackRows t = new TrackRows();
        Check.is("speed(1)", t.speed(1), 10);
        Check.is("speed(100)", t.speed(100), 1);
        Check.notTold("speed(101)", () -> t.speed(101));
        Check.notTold("speed(0)", () -> t.speed(0));
        Check.is("speed(100) again", t.speed(100), 100);
        Check.is("SPEED", t.told(5), 100);
        Check.is("limit(100000)", t.limit(100000), 600);
        Check.is("limit(1)", t.limit(1), 100000);
        Check.notTold("limit(100001)", () -> t.limit(100001));
        Check.notTold("limit(0)", () -> t.limit(0));
        Check.is("limit(1) again", t.limit(1), 1);
        Check.is("LIMIT", t.told(6), 1);
    }

    // "Devices (what = 0), fences (1), sights (2), bytes packed last (3), bytes to be read (4), SPEED (5),
    // LIMIT (6)", with nothing, with something, and full
    private static void toldCountsEach() {
        TrackRows t = new TrackRows();
        Made.full(t);
        int[] due = {5, 4, 5, 3, 3, 10, 600};
        for (int what = 0; what < 7; what++) {
            Check.is("told(" + what + ")", t.told(what), due[what]);
        }
        t.pack(1);
        t.read(1);
        Check.is("bytes packed last of no places", t.told(3), 0);
        Check.is("bytes to be read, once read", t.told(4), 0);
        TrackRows u = new TrackRows();
        Made.some(u);
        int[] dueOfSome = {2, 2, 2, u.pack(0), 7, 7, 300};
        for (int what = 0; what < 7; what++) {
            Check.is("told(" + what + ")", u.told(what), dueOfSome[what]);
        }
    }
}
