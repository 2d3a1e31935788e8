/** Promises 1, 2, 8, 9 and 26: a new object, device, speed, limit, told. */
public final class NewObjectTest {
    public static void main(String[] args) {
        newObject();
        devices();
        speeds();
        limits();
        Check.end();
    }

    private static void newObject() {
        TrackRows t = new TrackRows();
        for (int what = 0; what < 5; what++) {
            Check.is("told of a new object " + what, t.told(what), 0);
        }
        Check.is("SPEED of a new object", t.told(5), 10);
        Check.is("LIMIT of a new object", t.told(6), 600);
        Check.notTold("told(-1)", () -> t.told(-1));
        Check.notTold("told(7)", () -> t.told(7));
        Check.notTold("told(least)", () -> t.told(Integer.MIN_VALUE));
        Check.noSuch("no device", () -> t.has(0, 0));
        Check.noSuch("no device, and no such what", () -> t.has(0, 9));
        Check.noSuch("no fence", () -> t.corner(0, 0, 0));
        Check.noSuch("no byte", () -> t.byteAt(0));
        Check.noSuch("no sight", () -> t.match(0));
        Check.is("nothing matched", t.matched(), 0);
    }

    private static void devices() {
        TrackRows t = new TrackRows();
        for (int k = 0; k < 5; k++) {
            Check.is("told(0) before device()", t.told(0), k);
            final int next = k;
            Check.noSuch("device not there yet", () -> t.has(next, 0));
            Check.is("device()", t.device(), k);
            for (int what = 0; what < 5; what++) {
                Check.is("has of a new device", t.has(k, what), 0);
            }
        }
        Check.tooMany("a sixth device", t::device);
        Check.tooMany("a sixth device again", t::device);
        Check.is("told(0) after too many", t.told(0), 5);
        Check.noSuch("device 5", () -> t.has(5, 0));
        Check.noSuch("device -1", () -> t.has(-1, 0));
    }

    private static void speeds() {
        TrackRows t = new TrackRows();
        Check.is("speed(1)", t.speed(1), 10);
        Check.is("speed(100)", t.speed(100), 1);
        Check.notTold("speed(0)", () -> t.speed(0));
        Check.notTold("speed(101)", () -> t.speed(101));
        Check.notTold("speed(-5)", () -> t.speed(-5));
        Check.is("told(5) after refusals", t.told(5), 100);
        Check.is("speed(7)", t.speed(7), 100);
        Check.is("told(5)", t.told(5), 7);
        Check.is("LIMIT stays", t.told(6), 600);
    }

    private static void limits() {
        TrackRows t = new TrackRows();
        Check.is("limit(1)", t.limit(1), 600);
        Check.is("limit(100000)", t.limit(100000), 1);
        Check.notTold("limit(0)", () -> t.limit(0));
        Check.notTold("limit(100001)", () -> t.limit(100001));
        Check.notTold("limit(-1)", () -> t.limit(-1));
        Check.is("told(6) after refusals", t.told(6), 100000);
        Check.is("limit(33)", t.limit(33), 100000);
        Check.is("told(6)", t.told(6), 33);
        Check.is("SPEED stays", t.told(5), 10);
    }
}
