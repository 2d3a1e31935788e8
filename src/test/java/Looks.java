import java.util.function.LongSupplier;

/**
 * What can be seen of an object, in parts that are asked each of an object of its own: some looks change
 * what they look at, and an object has 512 calls only.
 */
final class Looks {
    static final int PARTS = 10;
    private static final int ROOM = 0;
    private static final int FED = 1;
    private static final int FENCES = 2;
    private static final int PACKED = 3;
    static final int NUMBERS = 4;

    private final TrackRows t;
    private final StringBuilder seen = new StringBuilder();

    private Looks(TrackRows t) {
        this.t = t;
    }

    static String at(TrackRows t, int part) {
        Looks looks = new Looks(t);
        switch (part) {
            case ROOM: looks.room(); break;
            case FED: looks.fed(); break;
            case FENCES: looks.fences(); break;
            case PACKED: looks.packed(); break;
            case NUMBERS: looks.numbers(); break;
            default: looks.places(part - NUMBERS - 1);
        }
        return looks.seen.toString();
    }

    private void ask(String what, LongSupplier call) {
        seen.append(what).append('=');
        try {
            seen.append(call.getAsLong());
        } catch (RuntimeException e) {
            seen.append(e.getClass().getSimpleName());
        }
        seen.append(' ');
    }

    private void numbers() {
        for (int k = 0; k < 7; k++) {
            final int what = k;
            ask("told(" + k + ")", () -> t.told(what));
        }
        ask("matched()", t::matched);
        for (int s = 0; s < t.told(2); s++) {
            final int sight = s;
            ask("match(" + s + ")", () -> t.match(sight));
        }
        for (int d = 0; d < t.told(0); d++) {
            numbersOf(d);
        }
    }

    private void numbersOf(int d) {
        for (int k = 0; k < 5; k++) {
            final int what = k;
            ask("has(" + d + "," + k + ")", () -> t.has(d, what));
        }
        for (int k = 0; k < 2; k++) {
            final int number = k;
            ask("jump(" + d + "," + k + ")", () -> t.jump(d, number));
            ask("gap(" + d + "," + k + ")", () -> t.gap(d, number));
            ask("repeat(" + d + "," + (k + 1) + ")", () -> t.repeat(d, number + 1));
        }
        for (int second : new int[] {0, 150, 450, 5000, 1000000}) {
            ask("time(" + d + "," + second + ")", () -> t.time(d, second));
        }
        for (int s = 0; s < t.told(2); s++) {
            final int sight = s;
            ask("weight(" + s + "," + d + ")", () -> t.weight(sight, d));
        }
    }

    private void places(int d) {
        if (d >= t.told(0)) {
            return;
        }
        for (int p = 0; p < t.has(d, 0); p++) {
            for (int k = 0; k < 4; k++) {
                final int place = p;
                final int what = k;
                ask("at(" + d + "," + p + "," + k + ")", () -> t.at(d, place, what));
            }
        }
    }

    private void packed() {
        for (int k = 0; k < t.told(3) && k < 150; k++) {
            final int number = k;
            ask("byteAt(" + k + ")", () -> t.byteAt(number));
        }
    }

    /** Corners show by whether a place is in, and by how many there are with one more. */
    private void fences() {
        for (int f = 0; f < t.told(1); f++) {
            final int fence = f;
            for (int p = 0; p < 4; p++) {
                final int place = p;
                ask("in(0," + p + "," + f + ")", () -> t.in(0, place, fence) ? 1 : 0);
            }
            ask("corner(" + f + ")", () -> t.corner(fence, 300, -300));
            ask("in(0,0," + f + ")", () -> t.in(0, 0, fence) ? 1 : 0);
        }
    }

    /** The bytes that are to be read show by what they are read as. */
    private void fed() {
        if (t.told(0) == 0) {
            t.device();
        }
        ask("read(0)", () -> t.read(0));
        places(0);
    }

    private void room() {
        ask("device()", t::device);
        ask("fence()", t::fence);
        ask("sight()", () -> t.sight(7, 8, 9));
        ask("feed()", () -> t.feed(1));
        for (int d = 0; d < t.told(0); d++) {
            final int device = d;
            ask("mark(" + d + ")", () -> t.mark(device, 999999, 999999));
            ask("place(" + d + ")", () -> t.place(device, 999999, 8, 9));
            ask("place(" + d + ")", () -> t.place(device, 999999, 8, 9));
            ask("has(" + d + ",1)", () -> t.has(device, 1));
        }
    }
}
