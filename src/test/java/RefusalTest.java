/**
 * Terms, on the three exceptions: which one a call throws where there are several, that all are full at
 * their bound and not before, and that a call that throws changes nothing.
 */
public final class RefusalTest {
    public static void main(String[] args) {
        devicesAtMost5();
        placesAtMost60();
        marksAtMost8();
        fencesAtMost4();
        cornersAtMost8();
        sightsAtMost5();
        bytesAtMost600();
        fullOnlyByItself();
        noSuchBeforeNotTold();
        notToldBeforeTooMany();
        noSuchOfANewObject();
        notThereYet();
        manyRefusals();
        Check.end();
    }

    // "DEVICES are 0, 1, .., at most 5"
    private static void devicesAtMost5() {
        TrackRows t = new TrackRows();
        for (int k = 0; k < 5; k++) {
            Check.is("device()", t.device(), k);
        }
        Check.tooMany("device 5", Made::full, u -> u.device());
    }

    // "PLACES, at most 60"
    private static void placesAtMost60() {
        TrackRows t = new TrackRows();
        t.device();
        for (int k = 0; k < 60; k++) {
            Check.is("place " + k, t.place(0, k, 0, 0), k);
        }
        Check.is("60 places", t.has(0, 0), 60);
        Check.tooMany("a place before 60", Made::full, u -> u.place(0, 0, 0, 0));
        Check.tooMany("a place between 60", Made::full, u -> u.place(0, 305, 0, 0));
        Check.tooMany("a place behind 60", Made::full, u -> u.place(0, 1000000, 0, 0));
    }

    // "MARKS of a device, at most 8"
    private static void marksAtMost8() {
        TrackRows t = new TrackRows();
        t.device();
        for (int k = 0; k < 8; k++) {
            Check.is("mark " + k, t.mark(0, k, k), k + 1);
        }
        Check.tooMany("a mark before 8", Made::full, u -> u.mark(0, 0, 0));
        Check.tooMany("a mark between 8", Made::full, u -> u.mark(0, 135, 240));
        Check.tooMany("a mark behind 8", Made::full, u -> u.mark(0, 1000000, 1000000));
    }

    // "FENCES are 0, 1, .., at most 4"
    private static void fencesAtMost4() {
        TrackRows t = new TrackRows();
        for (int k = 0; k < 4; k++) {
            Check.is("fence()", t.fence(), k);
        }
        Check.tooMany("fence 4", Made::full, u -> u.fence());
    }

    // "CORNERS, at most 8"
    private static void cornersAtMost8() {
        TrackRows t = new TrackRows();
        t.fence();
        for (int k = 0; k < 8; k++) {
            Check.is("corner " + k, t.corner(0, k, k), k + 1);
        }
        Check.tooMany("a ninth corner", Made::full, u -> u.corner(0, 0, 0));
        Check.tooMany("the last corner again", Made::full, u -> u.corner(0, -2, 1));
    }

    // "SIGHTS are 0, 1, .., at most 5"
    private static void sightsAtMost5() {
        TrackRows t = new TrackRows();
        for (int k = 0; k < 5; k++) {
            Check.is("sight", t.sight(k, k, k), k);
        }
        Check.tooMany("sight 5", Made::full, u -> u.sight(0, 0, 0));
    }

    // "how many, at most 600": only behind the 512th call, where answers are free; still none is kept then.
    private static void bytesAtMost600() {
        TrackRows t = new TrackRows();
        for (int k = 1; k <= 600; k++) {
            Check.is("feed", t.feed(k % 256), k);
        }
        Check.tooMany("a 601st byte", () -> t.feed(0));
        Check.notTold("wrong before too many", () -> t.feed(-1));
        Check.is("600 bytes", t.told(4), 600);
    }

    /** What is full leaves room for the same of another device or fence. */
    private static void fullOnlyByItself() {
        TrackRows t = new TrackRows();
        Made.full(t);
        Check.is("a place of another device", t.place(1, 305, 0, 0), 0);
        Check.is("a mark of another device", t.mark(1, 0, 0), 1);
        Check.is("a corner of another fence", t.corner(1, 0, 0), 1);
        Check.is("a place told twice", t.place(0, 10, 0, 0), TrackRows.TWICE);
        Check.is("a byte", t.feed(0), 4);
        TrackRows u = new TrackRows();
        for (int d = 0; d < 5; d++) {
            u.device();
            for (int k = 0; k < 60; k++) {
                Check.is("place " + k, u.place(d, k, d, k), k);
            }
        }
        for (int d = 0; d < 5; d++) {
            final int device = d;
            Check.is("60 of device " + d, u.has(d, 0), 60);
            Check.is("the last one", u.at(d, 59, 1), d);
            Check.tooMany("a 61st", () -> u.place(device, 60, 0, 0));
        }
    }

    // "Of several that a call names, the first one": IndexOutOfBoundsException stands first everywhere.
    private static void noSuchBeforeNotTold() {
        Check.noSuch("place", Made::some, t -> t.place(2, -1, 100001, 100001));
        Check.noSuch("place of a full object", Made::full, t -> t.place(5, -1, 100001, 0));
        Check.noSuch("has", Made::some, t -> t.has(2, 5));
        Check.noSuch("at, no device", Made::some, t -> t.at(2, 0, 4));
        Check.noSuch("at, no place", Made::some, t -> t.at(0, 5, 4));
        Check.noSuch("mark", Made::some, t -> t.mark(2, -1, 1000001));
        Check.noSuch("mark of a full object", Made::full, t -> t.mark(5, 100, 200));
        Check.noSuch("time", Made::some, t -> t.time(2, -1));
        Check.noSuch("could, no device", Made::some, t -> t.could(2, 0, 201, -201));
        Check.noSuch("could, no gap", Made::some, t -> t.could(0, 2, 201, 0));
        Check.noSuch("could, no gap, wrong j", Made::some, t -> t.could(0, -1, 0, -201));
        Check.noSuch("corner", Made::some, t -> t.corner(2, 100001, 0));
        Check.noSuch("corner of a full object", Made::full, t -> t.corner(4, 0, -100001));
        Check.noSuch("repeat", Made::some, t -> t.repeat(2, 0));
    }

    // "Of several that a call names, the first one": IllegalArgumentException before IllegalStateException.
    private static void notToldBeforeTooMany() {
        Check.notTold("second of a 61st place", Made::full, t -> t.place(0, 1000001, 0, 0));
        Check.notTold("x of a 61st place", Made::full, t -> t.place(0, 5, 100001, 0));
        Check.notTold("y of a 61st place", Made::full, t -> t.place(0, 5, 0, -100001));
        Check.notTold("a 61st place at the second of another", Made::full, t -> t.place(0, 10, 1, 0));
        Check.notTold("second of a ninth mark", Made::full, t -> t.mark(0, -1, 0));
        Check.notTold("time of a ninth mark", Made::full, t -> t.mark(0, 1000000, 1000001));
        Check.notTold("a ninth mark not as told", Made::full, t -> t.mark(0, 99, 200));
        Check.notTold("a ninth mark where one is", Made::full, t -> t.mark(0, 100, 200));
        Check.notTold("x of a ninth corner", Made::full, t -> t.corner(0, -100001, 0));
        Check.notTold("y of a ninth corner", Made::full, t -> t.corner(0, 0, 100001));
        Check.notTold("time of a sixth sight", Made::full, t -> t.sight(-1, 0, 0));
        Check.notTold("x of a sixth sight", Made::full, t -> t.sight(0, 100001, 0));
        Check.notTold("y of a sixth sight", Made::full, t -> t.sight(0, 0, -100001));
    }

    // "No devices, fences, sights, bytes": whatever asks for one finds none.
    private static void noSuchOfANewObject() {
        Check.noSuch("place", Made::nothing, t -> t.place(0, 0, 0, 0));
        Check.noSuch("has", Made::nothing, t -> t.has(0, 0));
        Check.noSuch("at", Made::nothing, t -> t.at(0, 0, 0));
        Check.noSuch("mark", Made::nothing, t -> t.mark(0, 0, 0));
        Check.noSuch("time", Made::nothing, t -> t.time(0, 0));
        Check.noSuch("jump", Made::nothing, t -> t.jump(0, 0));
        Check.noSuch("gap", Made::nothing, t -> t.gap(0, 0));
        Check.noSuch("could", Made::nothing, t -> t.could(0, 0, 0, 0));
        Check.noSuch("corner", Made::nothing, t -> t.corner(0, 0, 0));
        Check.noSuch("in", Made::nothing, t -> t.in(0, 0, 0));
        Check.noSuch("port", Made::nothing, t -> t.port(0, 0));
        Check.noSuch("pack", Made::nothing, t -> t.pack(0));
        Check.noSuch("byteAt", Made::nothing, t -> t.byteAt(0));
        Check.noSuch("read", Made::nothing, t -> t.read(0));
        Check.noSuch("repeat", Made::nothing, t -> t.repeat(0, 1));
        Check.noSuch("weight", Made::nothing, t -> t.weight(0, 0));
        Check.noSuch("match", Made::nothing, t -> t.match(0));
    }

    /** A device without places, a fence and a sight: what belongs to the others is still not there. */
    private static void notThereYet() {
        Check.CallOn empty = t -> {
            t.device();
            t.fence();
            t.sight(0, 0, 0);
            t.pack(0);
        };
        Check.noSuch("at", empty, t -> t.at(0, 0, 0));
        Check.noSuch("could", empty, t -> t.could(0, 0, 0, 0));
        Check.noSuch("in", empty, t -> t.in(0, 0, 0));
        Check.noSuch("port", empty, t -> t.port(0, 0));
        Check.noSuch("a byte of no places", empty, t -> t.byteAt(0));
        Check.noSuch("in of a second fence", Made::some, t -> t.in(0, 0, 2));
        Check.noSuch("weight of a third sight", Made::some, t -> t.weight(2, 0));
        Check.noSuch("weight of a third device", Made::some, t -> t.weight(0, 2));
        Check.noSuch("in, all three not there", Made::some, t -> t.in(2, 9, 9));
    }

    /** Refused calls one after the other count for nothing either. */
    private static void manyRefusals() {
        TrackRows t = new TrackRows();
        Made.some(t);
        for (int k = 0; k < 40; k++) {
            Check.noSuch("no device", () -> t.place(2, 1, 1, 1));
            Check.notTold("no second", () -> t.place(0, -1, 1, 1));
            Check.notTold("another is there", () -> t.place(0, 100, 1, 1));
            Check.notTold("no mark", () -> t.mark(0, 100, 90));
            Check.notTold("no byte", () -> t.feed(256));
            Check.notTold("no speed", () -> t.speed(0));
            Check.notTold("no limit", () -> t.limit(0));
            Check.notTold("no sight", () -> t.sight(0, 0, 100001));
            Check.notTold("no corner", () -> t.corner(0, 0, 100001));
        }
        TrackRows due = new TrackRows();
        Made.some(due);
        Check.is("as before", Looks.at(t, Looks.NUMBERS).equals(Looks.at(due, Looks.NUMBERS)), true);
        Check.is("room for a device", t.device(), 2);
        Check.is("room for a fence", t.fence(), 2);
    }
}
