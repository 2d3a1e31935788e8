/**
 * Terms and promises 3 to 26: every number that a call is given, at both ends of what it may be, one
 * beyond, and as far beyond as there is. A refused call changes nothing.
 */
public final class RangeTest {
    interface With {
        void ask(TrackRows t, int n);
    }

    public static void main(String[] args) {
        secondsOfAClock();
        trueSeconds();
        metres();
        cells();
        speedAndLimit();
        bytes();
        steps();
        whats();
        devices();
        places();
        fences();
        sights();
        gaps();
        bytesPacked();
        Check.end();
    }

    private static void taken(String what, With call, int n) {
        TrackRows t = new TrackRows();
        Made.some(t);
        boolean threw = false;
        try {
            call.ask(t, n);
        } catch (RuntimeException e) {
            threw = true;
        }
        Check.is(what + " " + n + " is refused", threw, false);
    }

    private static void range(String what, int least, int greatest, With call) {
        taken(what, call, least);
        taken(what, call, greatest);
        for (int n : new int[] {least - 1, greatest + 1, Integer.MIN_VALUE, Integer.MAX_VALUE}) {
            Check.notTold(what + " " + n, Made::some, t -> call.ask(t, n));
        }
    }

    /** Numbers from 0 on, of which there are so many. */
    private static void numbers(String what, int count, With call) {
        taken(what, call, 0);
        taken(what, call, count - 1);
        for (int n : new int[] {-1, count, Integer.MIN_VALUE, Integer.MAX_VALUE}) {
            Check.noSuch(what + " " + n, Made::some, t -> call.ask(t, n));
        }
    }

    // "a SECOND of its clock, 0 .. 1000000"
    private static void secondsOfAClock() {
        range("second of place", 0, 1000000, (t, n) -> t.place(1, n, 1, 2));
        range("second of mark", 0, 1000000, (t, n) -> t.mark(1, n, 5));
        range("second of time", 0, 1000000, (t, n) -> t.time(0, n));
        range("second of time without marks", 0, 1000000, (t, n) -> t.time(1, n));
    }

    // "the true second, 0 .. 1000000" of a mark; of a sight "Seconds 0 .. 1000000"
    private static void trueSeconds() {
        range("time of mark", 0, 1000000, (t, n) -> t.mark(1, 5, n));
        range("time of sight", 0, 1000000, (t, n) -> t.sight(n, 1, 2));
    }

    // "x and y, -100000 .. 100000, metres": of a place, a corner, a sight
    private static void metres() {
        range("x of place", -100000, 100000, (t, n) -> t.place(0, 7, n, 0));
        range("y of place", -100000, 100000, (t, n) -> t.place(0, 7, 0, n));
        range("x of corner", -100000, 100000, (t, n) -> t.corner(0, n, 0));
        range("y of corner", -100000, 100000, (t, n) -> t.corner(1, 0, n));
        range("x of sight", -100000, 100000, (t, n) -> t.sight(0, n, 0));
        range("y of sight", -100000, 100000, (t, n) -> t.sight(0, 0, n));
    }

    // "i and j -200 .. 200"
    private static void cells() {
        range("i of could", -200, 200, (t, n) -> t.could(0, 0, n, 0));
        range("j of could", -200, 200, (t, n) -> t.could(0, 0, 0, n));
    }

    // "SPEED, 1 .. 100", "LIMIT, 1 .. 100000"
    private static void speedAndLimit() {
        range("speed", 1, 100, (t, n) -> t.speed(n));
        range("limit", 1, 100000, (t, n) -> t.limit(n));
    }

    // "A byte, 0 .. 255"
    private static void bytes() {
        range("feed", 0, 255, (t, n) -> t.feed(n));
    }

    // "by n steps, 1 .. 30"
    private static void steps() {
        range("n of repeat", 1, 30, (t, n) -> t.repeat(0, n));
        range("n of repeat without steps", 1, 30, (t, n) -> t.repeat(1, n));
    }

    // "how many places (what = 0), .. gaps (4)", "its second (what = 0), .. TRUE TIME (3)",
    // "Devices (what = 0), .. LIMIT (6)"
    private static void whats() {
        range("what of has", 0, 4, (t, n) -> t.has(0, n));
        range("what of at", 0, 3, (t, n) -> t.at(0, 0, n));
        range("what of told", 0, 6, (t, n) -> t.told(n));
    }

    // "IndexOutOfBoundsException: there is no such device"
    private static void devices() {
        numbers("device of place", 2, (t, n) -> t.place(n, 7, 0, 0));
        numbers("device of has", 2, (t, n) -> t.has(n, 0));
        numbers("device of at", 2, (t, n) -> t.at(n, 0, 0));
        numbers("device of mark", 2, (t, n) -> t.mark(n, 7, 1));
        numbers("device of time", 2, (t, n) -> t.time(n, 0));
        numbers("device of jump", 2, (t, n) -> t.jump(n, 0));
        numbers("device of gap", 2, (t, n) -> t.gap(n, 0));
        numbers("device of in", 2, (t, n) -> t.in(n, 0, 0));
        numbers("device of port", 2, (t, n) -> t.port(n, 0));
        numbers("device of pack", 2, (t, n) -> t.pack(n));
        numbers("device of read", 2, (t, n) -> t.read(n));
        numbers("device of repeat", 2, (t, n) -> t.repeat(n, 1));
        numbers("device of weight", 2, (t, n) -> t.weight(0, n));
        // Only device 0 has a gap.
        numbers("device of could", 1, (t, n) -> t.could(n, 0, 0, 0));
    }

    // "there is no such .. place"
    private static void places() {
        numbers("place of at", 5, (t, n) -> t.at(0, n, 0));
        numbers("place of in", 5, (t, n) -> t.in(0, n, 0));
        numbers("place of port", 5, (t, n) -> t.port(0, n));
        numbers("place of at, one place", 1, (t, n) -> t.at(1, n, 3));
        numbers("place of in, one place", 1, (t, n) -> t.in(1, n, 1));
        numbers("place of port, one place", 1, (t, n) -> t.port(1, n));
    }

    // "there is no such .. fence"
    private static void fences() {
        numbers("fence of corner", 2, (t, n) -> t.corner(n, 1, 1));
        numbers("fence of in", 2, (t, n) -> t.in(0, 0, n));
    }

    // "there is no such .. sight"
    private static void sights() {
        numbers("sight of weight", 2, (t, n) -> t.weight(n, 0));
        numbers("sight of match", 2, (t, n) -> t.match(n));
    }

    // "there is no such .. gap"
    private static void gaps() {
        TrackRows t = new TrackRows();
        Made.some(t);
        Check.is("gaps", t.has(0, 4), 2);
        numbers("gap of could", 2, (u, n) -> u.could(0, n, 0, 0));
    }

    // "there is no such .. byte"
    private static void bytesPacked() {
        TrackRows t = new TrackRows();
        Made.some(t);
        int count = t.told(3);
        Check.is("bytes are packed", count > 15, true);
        numbers("byte of byteAt", count, (u, n) -> u.byteAt(n));
    }
}
