import java.util.Arrays;

/** Boundary sentences on packed places and on bytes that are to be read: promises 17 to 20. */
public final class BytesEdgeTest {
    private static final int NONE = TrackRows.NONE;

    public static void main(String[] args) {
        differences();
        lessThanTheOneBefore();
        firstLessZero();
        packedOfNoPlaces();
        packedOfSixtyPlaces();
        packedLast();
        bytesOneByOne();
        readOfNoBytes();
        readInPlaceOfThoseItHad();
        readSixty();
        readSixtyOne();
        bytesGo();
        readAgain();
        notWhole();
        notAsPackWouldTell();
        numbersBeyondAllBounds();
        secondsNotAsTold();
        metresNotAsTold();
        orderNotAsTold();
        readBack();
        Check.end();
    }

    private static TrackRows made(int devices) {
        TrackRows t = new TrackRows();
        for (int k = 0; k < devices; k++) {
            t.device();
        }
        return t;
    }

    private static void feedAll(TrackRows t, int... bytes) {
        for (int b : bytes) {
            t.feed(b);
        }
    }

    private static void packedAs(TrackRows t, int device, int... due) {
        Check.is("pack", t.pack(device), due.length);
        Check.is("told(3)", t.told(3), due.length);
        for (int k = 0; k < due.length; k++) {
            Check.is("byte " + k + " of " + Arrays.toString(due), t.byteAt(k), due[k]);
        }
    }

    /** One x, packed behind a second of 0: its bytes, and that these are read as it. */
    private static void ofX(int x, int... bytes) {
        int[] due = new int[bytes.length + 2];
        System.arraycopy(bytes, 0, due, 1, bytes.length);
        TrackRows t = made(2);
        t.place(0, 0, x, 0);
        packedAs(t, 0, due);
        feedAll(t, due);
        Check.is("read", t.read(1), 1);
        Check.is("x", t.at(1, 0, 1), x);
    }

    private static void ofSecond(int second, int... bytes) {
        int[] due = Arrays.copyOf(bytes, bytes.length + 2);
        TrackRows t = made(2);
        t.place(0, second, 0, 0);
        packedAs(t, 0, due);
        feedAll(t, due);
        Check.is("read", t.read(1), 1);
        Check.is("second", t.at(1, 0, 0), second);
    }

    // "2 d for d of 0 or more, otherwise -2 d - 1"; "its seven lowest bits first, .. as many as there are
    // with a bit 1 above (one at least), each a byte, and 128 more but for the last one"
    private static void differences() {
        ofX(0, 0);
        ofX(1, 2);
        ofX(-1, 1);
        ofX(63, 126);
        ofX(-64, 127);
        ofX(64, 128, 1);
        ofX(-65, 129, 1);
        ofX(8191, 254, 127);
        ofX(-8192, 255, 127);
        ofX(8192, 128, 128, 1);
        ofX(-8193, 129, 128, 1);
        ofX(100000, 192, 154, 12);
        ofX(-100000, 191, 154, 12);
        ofSecond(0, 0);
        ofSecond(63, 126);
        ofSecond(64, 128, 1);
        ofSecond(8191, 254, 127);
        ofSecond(8192, 128, 128, 1);
        ofSecond(1000000, 128, 137, 122);
    }

    // "less those of the place before"
    private static void lessThanTheOneBefore() {
        TrackRows t = made(1);
        t.place(0, 1000000, -100000, 100000);
        t.place(0, 999999, 100000, -100000);
        t.place(0, 999936, 99936, -99936);
        packedAs(t, 0, 128, 136, 122, 192, 153, 12, 191, 153, 12,
                126, 128, 1, 127,
                2, 255, 180, 24, 128, 181, 24);
    }

    // "(before the first one: 0, 0, 0)"
    private static void firstLessZero() {
        TrackRows t = made(2);
        t.place(0, 5, 6, -7);
        t.place(1, 5, 6, -7);
        packedAs(t, 0, 10, 12, 13);
        packedAs(t, 1, 10, 12, 13);
        t.place(1, 4, 6, -7);
        packedAs(t, 1, 8, 12, 13, 2, 0, 0);
    }

    // "how many bytes": 0 of no places, and what was packed before is gone
    private static void packedOfNoPlaces() {
        TrackRows t = made(2);
        t.place(0, 5, 6, -7);
        packedAs(t, 0, 10, 12, 13);
        packedAs(t, 1);
        Check.noSuch("byte 0", () -> t.byteAt(0));
    }

    /** As many bytes as there can be: 60 times 3 times 3. */
    private static void packedOfSixtyPlaces() {
        TrackRows t = made(1);
        for (int k = 0; k < 60; k++) {
            int far = k % 2 == 0 ? 100000 : -100000;
            t.place(0, 10000 * (k + 1), far, -far);
        }
        Check.is("pack", t.pack(0), 540);
        Check.is("told(3)", t.told(3), 540);
        int[] last = {160, 156, 1, 255, 180, 24, 128, 181, 24};
        for (int k = 0; k < 9; k++) {
            Check.is("byte " + (531 + k), t.byteAt(531 + k), last[k]);
        }
        Check.noSuch("byte 540", () -> t.byteAt(540));
        Check.noSuch("byte 600", () -> t.byteAt(600));
    }

    // "A byte of what was packed last": whatever else has changed since
    private static void packedLast() {
        TrackRows t = made(2);
        t.place(0, 5, 6, -7);
        t.place(1, 1, 1, 1);
        t.pack(1);
        t.pack(0);
        t.place(0, 6, 6, 6);
        t.mark(0, 5, 500);
        feedAll(t, 4, 4, 4);
        t.read(0);
        int[] due = {10, 12, 13};
        Check.is("told(3)", t.told(3), 3);
        for (int k = 0; k < 3; k++) {
            Check.is("byte " + k, t.byteAt(k), due[k]);
        }
        Check.noSuch("pack of no device", () -> t.pack(2));
        Check.is("told(3) still", t.told(3), 3);
        Check.is("byte 2 still", t.byteAt(2), 13);
    }

    // "comes behind those that are to be read: how many"
    private static void bytesOneByOne() {
        TrackRows t = made(1);
        Check.is("feed(0)", t.feed(0), 1);
        Check.is("feed(255)", t.feed(255), 2);
        Check.notTold("feed(256)", () -> t.feed(256));
        Check.notTold("feed(-1)", () -> t.feed(-1));
        Check.is("feed(1)", t.feed(1), 3);
        Check.is("feed(0)", t.feed(0), 4);
        Check.is("told(4)", t.told(4), 4);
        Check.is("told(3)", t.told(3), 0);
        Check.is("read: 0, 255 and 1, 0", t.read(0), 1);
        Check.is("x", t.at(0, 0, 1), -128);
        Check.is("feed counts from 1 again", t.feed(7), 1);
    }

    // "(of no bytes 0: it has none then)"
    private static void readOfNoBytes() {
        TrackRows t = new TrackRows();
        Made.some(t);
        t.read(1);
        Check.is("read of no bytes", t.read(0), 0);
        Check.is("places", t.has(0, 0), 0);
        Check.is("jumps", t.has(0, 3), 0);
        Check.is("gaps", t.has(0, 4), 0);
        Check.is("TWICE stays", t.has(0, 1), 1);
        Check.is("marks stay", t.has(0, 2), 2);
        Check.is("jump", t.jump(0, 0), NONE);
        Check.is("gap", t.gap(0, 0), NONE);
        Check.is("repeat", t.repeat(0, 1), NONE);
        Check.is("weight", t.weight(0, 0), NONE);
        Check.is("pack", t.pack(0), 0);
        Check.noSuch("at", () -> t.at(0, 0, 0));
        Check.noSuch("in", () -> t.in(0, 0, 0));
        Check.noSuch("port", () -> t.port(0, 0));
        Check.noSuch("could", () -> t.could(0, 0, 0, 0));
        Check.is("read of no bytes again", t.read(0), 0);
    }

    // "a device's places from now on, in place of those that it had"
    private static void readInPlaceOfThoseItHad() {
        TrackRows t = made(2);
        t.place(0, 4, 9, 9);
        t.place(0, 5, 9, 9);
        t.place(0, 6, 9, 9);
        t.place(1, 8, 8, 8);
        feedAll(t, 10, 2, 4, 6, 0, 1);
        Check.is("read", t.read(0), 2);
        Check.is("places", t.has(0, 0), 2);
        int[][] due = {{5, 1, 2, 5}, {8, 1, 1, 8}};
        for (int p = 0; p < 2; p++) {
            for (int what = 0; what < 4; what++) {
                Check.is("at(0, " + p + ", " + what + ")", t.at(0, p, what), due[p][what]);
            }
        }
        Check.noSuch("a third place", () -> t.at(0, 2, 0));
        Check.is("those of the other device", t.at(1, 0, 1), 8);
        Check.is("one that it had is new", t.place(0, 4, 9, 9), 0);
        Check.is("one that was read is not", t.place(0, 5, 1, 2), TrackRows.TWICE);
    }

    private static void feedPlaces(TrackRows t, int count) {
        for (int k = 0; k < count; k++) {
            feedAll(t, 2, 1, 2);
        }
    }

    // "60 at most": just 60
    private static void readSixty() {
        TrackRows t = made(1);
        feedPlaces(t, 60);
        Check.is("read", t.read(0), 60);
        Check.is("places", t.has(0, 0), 60);
        Check.is("second of the last", t.at(0, 59, 0), 60);
        Check.is("x of the last", t.at(0, 59, 1), -60);
        Check.is("y of the last", t.at(0, 59, 2), 60);
        Check.tooMany("it is full", () -> t.place(0, 61, 0, 0));
        feedAll(t, 0, 0, 0);
        Check.is("one place", t.read(0), 1);
        Check.is("there is room again", t.place(0, 61, 0, 0), 1);
    }

    // "60 at most": one more, whole or not
    private static void readSixtyOne() {
        Check.CallOn sixty = t -> {
            t.device();
            t.place(0, 7, 7, 7);
            feedPlaces(t, 60);
        };
        int[][] more = {{2, 0, 0}, {2, 0}, {2}, {0}, {128}};
        for (int[] bytes : more) {
            TrackRows t = new TrackRows();
            sixty.run(t);
            feedAll(t, bytes);
            Check.is("60 and " + Arrays.toString(bytes), t.read(0), NONE);
            Check.is("bytes are gone", t.told(4), 0);
            Check.is("places stay", t.has(0, 0), 1);
            Check.is("as they were", t.at(0, 0, 0), 7);
        }
    }

    // "and go"; "they go, too"; but not where there is no such device
    private static void bytesGo() {
        Check.noSuch("read of no device", Made::some, t -> t.read(2));
        Check.noSuch("read of device -1", Made::some, t -> t.read(-1));
        TrackRows t = made(2);
        feedAll(t, 2, 2, 2);
        Check.noSuch("no device", () -> t.read(2));
        Check.is("they stay", t.told(4), 3);
        Check.is("read", t.read(1), 1);
        Check.is("they go", t.told(4), 0);
        feedAll(t, 2, 2);
        Check.is("not whole", t.read(1), NONE);
        Check.is("they go, too", t.told(4), 0);
        Check.is("now there are none", t.read(1), 0);
    }

    /** Bytes of before have no part in what is read later. */
    private static void readAgain() {
        TrackRows t = made(1);
        feedAll(t, 20, 40, 60, 2, 2, 2, 2, 2, 2);
        Check.is("three places", t.read(0), 3);
        feedAll(t, 4, 6);
        Check.is("not whole, though bytes of before lie behind", t.read(0), NONE);
        Check.is("three stay", t.has(0, 0), 3);
        feedAll(t, 8, 10, 11);
        Check.is("one", t.read(0), 1);
        Check.is("second", t.at(0, 0, 0), 4);
        Check.is("x", t.at(0, 0, 1), 5);
        Check.is("y", t.at(0, 0, 2), -6);
    }

    /** NONE, the places stay and the bytes go. */
    private static void unread(int... bytes) {
        TrackRows t = new TrackRows();
        Made.some(t);
        t.read(1);
        TrackRows due = new TrackRows();
        Made.some(due);
        due.read(1);
        feedAll(t, bytes);
        Check.is("read of " + Arrays.toString(bytes), t.read(0), NONE);
        Check.is("bytes are gone", t.told(4), 0);
        Check.is("all else is as before", Looks.at(t, Looks.NUMBERS).equals(Looks.at(due, Looks.NUMBERS)), true);
        for (int p = 0; p < 5; p++) {
            for (int what = 0; what < 3; what++) {
                Check.is("at(0, " + p + ", " + what + ")", t.at(0, p, what), due.at(0, p, what));
            }
        }
    }

    // "if they are not whole PACKED places"
    private static void notWhole() {
        unread(0);
        unread(0, 0);
        unread(128);
        unread(0, 128);
        unread(0, 0, 128);
        unread(0, 0, 0, 2);
        unread(0, 0, 0, 2, 0);
        unread(0, 0, 0, 2, 0, 130);
        unread(0, 0, 0, 130);
        unread(0, 0, 255, 255);
        unread(255, 255, 255);
    }

    // "as pack() would tell them": no byte more than a number needs
    private static void notAsPackWouldTell() {
        unread(128, 0, 0, 0);
        unread(0, 128, 0, 0);
        unread(0, 0, 128, 0);
        unread(130, 0, 2, 2);
        unread(2, 130, 0, 2);
        unread(2, 2, 130, 0);
        unread(255, 128, 0, 2, 2);
        unread(2, 255, 255, 0, 2);
        unread(2, 2, 255, 255, 0);
        unread(2, 2, 130, 128, 128, 0);
        unread(2, 2, 2, 130, 0, 2, 2);
        unread(2, 2, 2, 2, 2, 130, 128, 0);
    }

    /** Numbers that would be small ones again, if only 21, 28, 32 or 64 of their bits counted. */
    private static void numbersBeyondAllBounds() {
        unread(130, 128, 128, 1, 2, 2);
        unread(2, 130, 128, 128, 1, 2);
        unread(2, 2, 130, 128, 128, 1);
        unread(2, 2, 130, 128, 128, 128, 1);
        unread(2, 2, 130, 128, 128, 128, 8);
        unread(2, 130, 128, 128, 128, 16, 2);
        unread(130, 128, 128, 128, 16, 2, 2);
        unread(2, 2, 130, 128, 128, 128, 128, 1);
        unread(2, 2, 130, 128, 128, 128, 128, 128, 128, 128, 128, 1);
        unread(2, 2, 130, 128, 128, 128, 128, 128, 128, 128, 128, 2);
        unread(2, 2, 130, 128, 128, 128, 128, 128, 128, 128, 128, 128, 128, 1);
        unread(255, 255, 127, 255, 255, 127, 255, 255, 127);
        unread(2, 254, 255, 255, 255, 15, 2);
        unread(2, 255, 255, 255, 255, 15, 2);
    }

    // "of numbers, seconds .. as told": seconds 0 .. 1000000
    private static void secondsNotAsTold() {
        unread(130, 137, 122, 0, 0);
        unread(1, 0, 0);
        unread(129, 137, 122, 0, 0);
        unread(128, 137, 122, 0, 0, 2, 0, 0);
        unread(128, 137, 122, 0, 0, 128, 137, 122, 0, 0);
    }

    // "of numbers .. as told": x and y -100000 .. 100000, of any place
    private static void metresNotAsTold() {
        unread(0, 194, 154, 12, 0);
        unread(0, 193, 154, 12, 0);
        unread(0, 0, 194, 154, 12);
        unread(0, 0, 193, 154, 12);
        unread(0, 192, 154, 12, 0, 2, 2, 0);
        unread(0, 191, 154, 12, 0, 2, 1, 0);
        unread(0, 0, 192, 154, 12, 2, 0, 2);
        unread(0, 0, 191, 154, 12, 2, 0, 1);
        TrackRows t = made(1);
        feedAll(t, 0, 192, 154, 12, 191, 154, 12, 2, 255, 180, 24, 128, 181, 24);
        Check.is("from end to end", t.read(0), 2);
        Check.is("x of the first", t.at(0, 0, 1), 100000);
        Check.is("y of the first", t.at(0, 0, 2), -100000);
        Check.is("x of the second", t.at(0, 1, 1), -100000);
        Check.is("y of the second", t.at(0, 1, 2), 100000);
    }

    // "and order as told": no two have one second, and later ones stand behind
    private static void orderNotAsTold() {
        unread(10, 0, 0, 0, 0, 0);
        unread(10, 0, 0, 0, 2, 2);
        unread(10, 0, 0, 1, 0, 0);
        unread(10, 0, 0, 9, 0, 0);
        unread(0, 0, 0, 0, 0, 0);
        unread(10, 0, 0, 2, 0, 0, 0, 0, 0);
        unread(10, 0, 0, 2, 0, 0, 1, 0, 0);
        TrackRows t = made(1);
        feedAll(t, 0, 0, 0, 2, 0, 0);
        Check.is("a second later", t.read(0), 2);
        feedAll(t, 128, 136, 122, 0, 0, 2, 0, 0);
        Check.is("999936 and a second", t.read(0), 2);
        Check.is("the last second", t.at(0, 1, 0), 999937);
    }

    /** What pack() tells, read() takes: a row with numbers of one, two and three bytes. */
    private static void readBack() {
        TrackRows t = made(2);
        int[] ends = {0, 1, -1, 63, -64, 64, -65, 8191, -8192, 8192, -8193, 100000, -100000};
        for (int k = 0; k < ends.length; k++) {
            t.place(0, k * k * 1000, ends[k], ends[ends.length - 1 - k]);
        }
        int count = t.pack(0);
        for (int k = 0; k < count; k++) {
            t.feed(t.byteAt(k));
        }
        Check.is("read", t.read(1), ends.length);
        for (int k = 0; k < ends.length; k++) {
            Check.is("second " + k, t.at(1, k, 0), k * k * 1000);
            Check.is("x " + k, t.at(1, k, 1), ends[k]);
            Check.is("y " + k, t.at(1, k, 2), ends[ends.length - 1 - k]);
        }
        Check.is("packed again", t.pack(1), count);
    }
}
