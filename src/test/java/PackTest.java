/** Promises 17 to 20: pack, byteAt, feed, read. */
public final class PackTest {
    public static void main(String[] args) {
        packs();
        keepsWhatWasPacked();
        feeds();
        reads();
        readsBack();
        refusesWhatPackWouldNotTell();
        refusesNumbers();
        soundAfterUnsound();
        sixty();
        readKeepsTheRest();
        Check.end();
    }

    private static void fedAll(TrackRows t, int... bytes) {
        for (int k = 0; k < bytes.length; k++) {
            Check.is("feed", t.feed(bytes[k]), k + 1);
        }
    }

    private static void bytes(TrackRows t, int... due) {
        Check.is("bytes", t.told(3), due.length);
        for (int k = 0; k < due.length; k++) {
            Check.is("byte " + k, t.byteAt(k), due[k]);
        }
        Check.noSuch("a byte more", () -> t.byteAt(due.length));
        Check.noSuch("byte -1", () -> t.byteAt(-1));
    }

    private static void packs() {
        TrackRows t = new TrackRows();
        t.device();
        t.place(0, 0, 0, 0);
        Check.is("zeros", t.pack(0), 3);
        bytes(t, 0, 0, 0);
        t.place(0, 63, -64, 64);
        Check.is("one byte and two", t.pack(0), 7);
        bytes(t, 0, 0, 0, 126, 127, 128, 1);
        t.place(0, 8254, -8256, -8128);
        Check.is("two bytes each", t.pack(0), 13);
        bytes(t, 0, 0, 0, 126, 127, 128, 1, 254, 127, 255, 127, 255, 127);
        t.place(0, 1000000, 100000, 100000);
        Check.is("three bytes each", t.pack(0), 22);
        Check.noSuch("no device", () -> t.pack(1));
        Check.noSuch("device -1", () -> t.pack(-1));
        Check.is("the bytes stay", t.told(3), 22);
    }

    private static void keepsWhatWasPacked() {
        TrackRows t = new TrackRows();
        t.device();
        t.device();
        t.place(0, 2, 3, -4);
        Check.is("pack", t.pack(0), 3);
        t.place(0, 1, 0, 0);
        fedAll(t, 9, 9, 9);
        t.read(1);
        bytes(t, 4, 6, 7);
        Check.is("pack the late one", t.pack(0), 6);
        bytes(t, 2, 0, 0, 2, 6, 7);
        t.device();
        Check.is("of no places", t.pack(2), 0);
        bytes(t);
    }

    private static void feeds() {
        TrackRows t = new TrackRows();
        fedAll(t, 0, 255);
        Check.notTold("feed(-1)", () -> t.feed(-1));
        Check.notTold("feed(256)", () -> t.feed(256));
        Check.is("told(4)", t.told(4), 2);
        Check.is("told(3)", t.told(3), 0);
        Check.noSuch("read of no device", () -> t.read(0));
        Check.is("the bytes stay", t.told(4), 2);
        t.device();
        Check.is("not whole", t.read(0), TrackRows.NONE);
        Check.is("they go", t.told(4), 0);
        for (int k = 1; k <= 600; k++) {
            Check.is("feed", t.feed(0), k);
        }
        // Only beyond the 512th call, where answers are free: that it is refused is all that counts.
        Check.tooMany("a 601st byte", () -> t.feed(0));
        Check.notTold("wrong before too many", () -> t.feed(256));
    }

    private static void reads() {
        TrackRows t = new TrackRows();
        t.device();
        t.device();
        t.place(0, 77, 7, 7);
        fedAll(t, 20, 3, 128, 1, 2, 0, 1);
        Check.is("read", t.read(0), 2);
        Check.is("bytes are gone", t.told(4), 0);
        Check.is("places", t.has(0, 0), 2);
        Check.is("second 0", t.at(0, 0, 0), 10);
        Check.is("x 0", t.at(0, 0, 1), -2);
        Check.is("y 0", t.at(0, 0, 2), 64);
        Check.is("second 1", t.at(0, 1, 0), 11);
        Check.is("x 1", t.at(0, 1, 1), -2);
        Check.is("y 1", t.at(0, 1, 2), 63);
        Check.is("the other device", t.has(1, 0), 0);
        Check.is("read of no bytes", t.read(0), 0);
        Check.is("no places", t.has(0, 0), 0);
    }

    private static void readsBack() {
        TrackRows t = new TrackRows();
        t.device();
        t.device();
        int[] seconds = {0, 1, 64, 65, 8000, 500000, 1000000};
        int[] xs = {-100000, 100000, -100000, 99999, 0, -1, 63};
        int[] ys = {100000, -100000, 0, 0, 64, -64, 100000};
        for (int k = 0; k < seconds.length; k++) {
            t.place(0, seconds[k], xs[k], ys[k]);
        }
        int count = t.pack(0);
        for (int k = 0; k < count; k++) {
            t.feed(t.byteAt(k));
        }
        Check.is("read back", t.read(1), seconds.length);
        for (int k = 0; k < seconds.length; k++) {
            Check.is("second", t.at(1, k, 0), seconds[k]);
            Check.is("x", t.at(1, k, 1), xs[k]);
            Check.is("y", t.at(1, k, 2), ys[k]);
        }
    }

    private static void refused(int... bytes) {
        TrackRows t = new TrackRows();
        t.device();
        t.place(0, 5, 6, 7);
        fedAll(t, bytes);
        Check.is("read of " + java.util.Arrays.toString(bytes), t.read(0), TrackRows.NONE);
        Check.is("bytes go", t.told(4), 0);
        Check.is("places stay", t.has(0, 0), 1);
        Check.is("as they were", t.at(0, 0, 2), 7);
    }

    private static void refusesWhatPackWouldNotTell() {
        refused(1);
        refused(0);
        refused(0, 0);
        refused(0, 0, 0, 2);
        refused(0, 0, 0, 2, 0);
        refused(0, 0, 128);
        refused(0, 0, 255, 255);
        refused(128, 0, 0, 0);
        refused(130, 0, 0, 0);
        refused(0, 128, 128, 0, 0);
        refused(0, 0, 129, 128, 0);
        refused(0, 0, 129, 128, 128, 0);
        refused(0, 0, 128, 128, 128, 1);
        refused(0, 0, 128, 128, 128, 128, 16);
        refused(0, 0, 130, 128, 128, 128, 128, 128, 128, 128, 128, 1);
        refused(255, 255, 255, 255, 255, 255, 255, 255, 255, 255, 255, 255);
    }

    private static void refusesNumbers() {
        // 2000000 and 2000002, 200000 and 200002, 199999 and 200001, by sevens of bits.
        TrackRows t = new TrackRows();
        t.device();
        fedAll(t, 128, 137, 122, 192, 154, 12, 191, 154, 12);
        Check.is("the greatest", t.read(0), 1);
        Check.is("second", t.at(0, 0, 0), 1000000);
        Check.is("x", t.at(0, 0, 1), 100000);
        Check.is("y", t.at(0, 0, 2), -100000);
        refused(130, 137, 122, 0, 0);
        refused(0, 194, 154, 12, 0);
        refused(0, 0, 194, 154, 12);
        refused(0, 193, 154, 12, 0);
        refused(0, 0, 193, 154, 12);
        refused(1, 0, 0);
        refused(2, 0, 0, 0, 2, 2);
        refused(2, 0, 0, 1, 0, 0);
        refused(0, 192, 154, 12, 0, 2, 2, 0);
        refused(0, 0, 191, 154, 12, 2, 0, 1);
    }

    private static void soundAfterUnsound() {
        TrackRows t = new TrackRows();
        t.device();
        fedAll(t, 128, 0, 0, 0);
        Check.is("unsound", t.read(0), TrackRows.NONE);
        fedAll(t, 8, 0, 1);
        Check.is("sound", t.read(0), 1);
        Check.is("second", t.at(0, 0, 0), 4);
        Check.is("y", t.at(0, 0, 2), -1);
        fedAll(t, 8, 0);
        Check.is("unsound again", t.read(0), TrackRows.NONE);
        Check.is("of no bytes", t.read(0), 0);
    }

    private static void sixty() {
        TrackRows t = new TrackRows();
        t.device();
        for (int k = 0; k < 60; k++) {
            t.feed(2);
            t.feed(0);
            t.feed(1);
        }
        Check.is("sixty", t.read(0), 60);
        Check.is("last second", t.at(0, 59, 0), 60);
        Check.is("last y", t.at(0, 59, 2), -60);
        for (int k = 0; k < 61; k++) {
            t.feed(2);
            t.feed(2);
            t.feed(0);
        }
        Check.is("sixty-one", t.read(0), TrackRows.NONE);
        Check.is("the sixty stay", t.has(0, 0), 60);
        Check.is("as they were", t.at(0, 59, 1), 0);
        Check.tooMany("and are full", () -> t.place(0, 0, 0, 0));
    }

    private static void readKeepsTheRest() {
        TrackRows t = new TrackRows();
        t.device();
        t.place(0, 1, 2, 3);
        t.place(0, 1, 2, 3);
        t.mark(0, 1, 11);
        fedAll(t, 8, 0, 0);
        Check.is("read", t.read(0), 1);
        Check.is("how often twice stays", t.has(0, 1), 1);
        Check.is("marks stay", t.has(0, 2), 1);
        Check.is("true time by the marks", t.at(0, 0, 3), 14);
        Check.is("places can be told again", t.place(0, 1, 2, 4), 0);
    }
}
