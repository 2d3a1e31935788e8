import java.util.Arrays;

/** Runs of 512 calls on TrackRows and on PlainModel: every call must answer or throw alike. */
public final class ModelTest {
    private static final int RUNS = 600;
    private static final int CALLS = 512;
    private static final String[] NAMES = {"device", "place", "has", "at", "mark", "time", "speed", "limit",
        "jump", "gap", "could", "fence", "corner", "in", "port", "pack", "byteAt", "feed", "read", "repeat",
        "sight", "weight", "matched", "match", "told"};

    // Numbers that look random but are the same in every run.
    private static long seed = 20261115;
    // How wide the numbers of a run are: narrow ones meet edges, wide ones meet great numbers.
    private static int seconds = 0;
    private static int metres = 0;
    private static int ships = 0;
    // A way to come to many kinds of states: each run likes some calls more than others.
    private static final int[] LIKING = new int[NAMES.length];
    private static final int[] ANSWERED = new int[NAMES.length];
    private static final int[] THREW = new int[NAMES.length];

    public static void main(String[] args) {
        for (int run = 0; run < RUNS; run++) {
            oneRun(run);
        }
        for (int c = 0; c < NAMES.length; c++) {
            Check.is(NAMES[c] + " was answered", ANSWERED[c] > 100, true);
            boolean neverThrows = NAMES[c].equals("matched");
            Check.is(NAMES[c] + " was refused", THREW[c] > 100, !neverThrows);
        }
        Check.end();
    }

    private static int below(int bound) {
        seed = seed * 6364136223846793005L + 1442695040888963407L;
        return (int) Math.floorMod(seed >>> 33, (long) bound);
    }

    private static int pick(int... of) {
        return of[below(of.length)];
    }

    private static void oneRun(int run) {
        seconds = pick(8, 70, 300, 5000, 50000, 1000001);
        ships = pick(1, 2, 3, 5, 5);
        metres = pick(1, 2, 4, 12, 200, 5000, 100001);
        for (int c = 0; c < LIKING.length; c++) {
            LIKING[c] = pick(1, 2, 4, 12);
        }
        LIKING[1] += pick(0, 30, 90);
        TrackRows program = new TrackRows();
        PlainModel model = new PlainModel();
        int made = begin(run, program, model);
        while (made < CALLS) {
            int c = liked();
            if (c == 18 && below(2) == 0) {
                made += feedPlaces(run, program, model);
            }
            both(run, program, model, c, numbersFor(c));
            made++;
        }
    }

    /** Most runs begin with all that later calls can ask about. */
    private static int begin(int run, TrackRows program, PlainModel model) {
        int made = 0;
        for (int k = 0; k < 30 && run % 4 > 0; k++) {
            int c = k < ships ? 0 : k < ships + 2 ? 11 : k < 20 ? 12 : pick(1, 1, 4, 20);
            both(run, program, model, c, numbersFor(c));
            made++;
        }
        return made;
    }

    private static int liked() {
        int all = 0;
        for (int n : LIKING) {
            all += n;
        }
        int left = below(all);
        for (int c = 0; c < LIKING.length; c++) {
            left -= LIKING[c];
            if (left < 0) {
                return c;
            }
        }
        return 0;
    }

    private static void both(int run, TrackRows program, PlainModel model, int c, int[] n) {
        String due = "";
        String got = "";
        try {
            due = String.valueOf(ofModel(model, c, n));
            ANSWERED[c]++;
        } catch (RuntimeException e) {
            due = e.getClass().getName();
            THREW[c]++;
        }
        try {
            got = String.valueOf(ofProgram(program, c, n));
        } catch (RuntimeException e) {
            got = e.getClass().getName();
        }
        Check.is("run " + run + ": " + NAMES[c] + Arrays.toString(n) + " answered " + got + ", due is " + due
                + ": alike", got.equals(due), true);
    }

    private static int device() {
        return below(12) == 0 ? pick(-1, 5, 6, Integer.MAX_VALUE, Integer.MIN_VALUE) : below(ships);
    }

    private static int number(int usual) {
        return below(12) == 0 ? pick(-1, usual, usual + 1, 60, Integer.MIN_VALUE, Integer.MAX_VALUE) : below(usual);
    }

    private static int second() {
        return below(40) == 0 ? pick(-1, 0, 1000000, 1000001, Integer.MIN_VALUE, Integer.MAX_VALUE) : below(seconds);
    }

    private static int metre() {
        return below(50) == 0
                ? pick(-100001, -100000, 100000, 100001, Integer.MIN_VALUE, Integer.MAX_VALUE)
                : below(2 * metres - 1) - metres + 1;
    }

    private static int cell() {
        return below(20) == 0 ? pick(-201, -200, 200, 201, Integer.MIN_VALUE, Integer.MAX_VALUE)
                : (metre() / 1000 + below(9) - 4) % 202;
    }

    private static int[] numbersFor(int c) {
        switch (NAMES[c]) {
            case "place": return new int[] {device(), second(), metre(), metre()};
            case "has": return new int[] {device(), number(5)};
            case "at": return new int[] {device(), number(pick(2, 10, 60)), number(4)};
            case "mark": return markNumbers();
            case "time": return new int[] {device(), second()};
            case "speed": return new int[] {below(8) == 0 ? pick(-1, 0, 100, 101) : 1 + below(pick(3, 30, 100))};
            case "limit": return new int[] {below(8) == 0 ? pick(-1, 0, 100000, 100001) : 1 + below(seconds / 2)};
            case "jump":
            case "gap": return new int[] {device(), number(pick(2, 5, 20))};
            case "could": return new int[] {device(), number(pick(2, 2, 5)), cell(), cell()};
            case "corner": return new int[] {number(4), metre(), metre()};
            case "in": return new int[] {device(), number(pick(2, 10, 40)), number(4)};
            case "port": return new int[] {device(), number(pick(2, 10, 40))};
            case "pack":
            case "read": return new int[] {device()};
            case "byteAt": return new int[] {number(pick(3, 50, 400))};
            case "feed": return new int[] {below(20) == 0 ? pick(-1, 256) : below(pick(3, 130, 256))};
            case "repeat": return new int[] {device(), below(8) == 0 ? pick(-1, 0, 30, 31) : 1 + below(pick(2, 4, 30))};
            case "sight": return new int[] {second(), metre(), metre()};
            case "weight": return new int[] {number(5), device()};
            case "match": return new int[] {number(5)};
            case "told": return new int[] {number(7)};
            default: return new int[0];
        }
    }

    /** Often a true second that is near the clock's, so that several marks stand beside each other. */
    private static int[] markNumbers() {
        int second = second();
        int near = Math.max(0, Math.min(1000000, second)) + below(9) - 2;
        return new int[] {device(), second, below(3) == 0 ? second() : near};
    }

    /** Feeds places as they would be packed, or nearly so. */
    private static int feedPlaces(int run, TrackRows program, PlainModel model) {
        int places = pick(0, 1, 2, 5, 20);
        int fed = 0;
        for (int p = 0; p < places; p++) {
            int[] numbers = {2 * below(pick(2, 60, 2000, 60000)), below(pick(3, 127, 400, 70000)),
                below(pick(3, 260, 90000))};
            for (int number : numbers) {
                int rest = number;
                while (rest > 127) {
                    both(run, program, model, 17, new int[] {128 + rest % 128});
                    rest /= 128;
                    fed++;
                }
                both(run, program, model, 17, new int[] {rest});
                fed++;
            }
        }
        return fed;
    }

    private static long one(boolean answer) {
        return answer ? 1 : 0;
    }

    private static long ofProgram(TrackRows t, int c, int[] n) {
        switch (NAMES[c]) {
            case "device": return t.device();
            case "place": return t.place(n[0], n[1], n[2], n[3]);
            case "has": return t.has(n[0], n[1]);
            case "at": return t.at(n[0], n[1], n[2]);
            case "mark": return t.mark(n[0], n[1], n[2]);
            case "time": return t.time(n[0], n[1]);
            case "speed": return t.speed(n[0]);
            case "limit": return t.limit(n[0]);
            case "jump": return t.jump(n[0], n[1]);
            case "gap": return t.gap(n[0], n[1]);
            case "could": return one(t.could(n[0], n[1], n[2], n[3]));
            case "fence": return t.fence();
            case "corner": return t.corner(n[0], n[1], n[2]);
            case "in": return one(t.in(n[0], n[1], n[2]));
            case "port": return t.port(n[0], n[1]);
            case "pack": return t.pack(n[0]);
            case "byteAt": return t.byteAt(n[0]);
            case "feed": return t.feed(n[0]);
            case "read": return t.read(n[0]);
            case "repeat": return t.repeat(n[0], n[1]);
            case "sight": return t.sight(n[0], n[1], n[2]);
            case "weight": return t.weight(n[0], n[1]);
            case "matched": return t.matched();
            case "match": return t.match(n[0]);
            default: return t.told(n[0]);
        }
    }

    private static long ofModel(PlainModel t, int c, int[] n) {
        switch (NAMES[c]) {
            case "device": return t.device();
            case "place": return t.place(n[0], n[1], n[2], n[3]);
            case "has": return t.has(n[0], n[1]);
            case "at": return t.at(n[0], n[1], n[2]);
            case "mark": return t.mark(n[0], n[1], n[2]);
            case "time": return t.time(n[0], n[1]);
            case "speed": return t.speed(n[0]);
            case "limit": return t.limit(n[0]);
            case "jump": return t.jump(n[0], n[1]);
            case "gap": return t.gap(n[0], n[1]);
            case "could": return one(t.could(n[0], n[1], n[2], n[3]));
            case "fence": return t.fence();
            case "corner": return t.corner(n[0], n[1], n[2]);
            case "in": return one(t.in(n[0], n[1], n[2]));
            case "port": return t.port(n[0], n[1]);
            case "pack": return t.pack(n[0]);
            case "byteAt": return t.byteAt(n[0]);
            case "feed": return t.feed(n[0]);
            case "read": return t.read(n[0]);
            case "repeat": return t.repeat(n[0], n[1]);
            case "sight": return t.sight(n[0], n[1], n[2]);
            case "weight": return t.weight(n[0], n[1]);
            case "matched": return t.matched();
            case "match": return t.match(n[0]);
            default: return t.told(n[0]);
        }
    }
}
