/**
 * Tracks of ships: places, clocks put right by marks, jumps, gaps, fences, packed rows, repeats,
 * and sights matched with devices. The document's promises say what each call answers.
 */
public final class TrackRows {
    public static final int NONE = -1, TWICE = -2;

    private static final int MOST_DEVICES = 5;
    private static final int MOST_PLACES = 60;
    private static final int MOST_MARKS = 8;
    private static final int MOST_FENCES = 4;
    private static final int MOST_CORNERS = 8;
    private static final int MOST_SIGHTS = 5;
    private static final int MOST_BYTES = 600;
    private static final int MOST_STEPS_ASKED = 30;

    private static final int LAST_SECOND = 1000000;
    private static final int FARTHEST_METRE = 100000;
    private static final int FARTHEST_CELL = 200;
    private static final int CELL_METRES = 1000;
    private static final int GREATEST_SPEED = 100;
    private static final int GREATEST_LIMIT = 100000;

    private final Device[] devices = new Device[MOST_DEVICES];
    private final Fence[] fences = new Fence[MOST_FENCES];
    private final Places sights = new Places(MOST_SIGHTS);
    private final Matching matching = new Matching();
    private final Bytes packed = new Bytes();
    private final Bytes fed = new Bytes();
    private final Places unpacked = new Places(MOST_PLACES);
    private int deviceCount = 0;
    private int fenceCount = 0;
    private int speedNow = 10;
    private int limitNow = 600;

    public TrackRows() {
        for (int k = 0; k < MOST_DEVICES; k++) {
            devices[k] = new Device();
        }
        for (int k = 0; k < MOST_FENCES; k++) {
            fences[k] = new Fence();
        }
    }

    public int device() throws IllegalStateException {
        refuseMore(deviceCount, MOST_DEVICES);
        return deviceCount++;
    }

    public int place(int device, int second, int x, int y)
            throws IndexOutOfBoundsException, IllegalArgumentException, IllegalStateException {
        Device owner = deviceOf(device);
        Places places = owner.places;
        refuseUntellable(second, x, y);
        int number = places.numberFor(second);
        if (places.hasSecond(number, second)) {
            refuseUnless(places.isAt(number, x, y));
            owner.toldTwice++;
            return TWICE;
        }
        refuseMore(places.count, MOST_PLACES);
        places.insert(number, second, x, y);
        return number;
    }

    public int has(int device, int what) throws IndexOutOfBoundsException, IllegalArgumentException {
        Device owner = deviceOf(device);
        switch (what) {
            case 0:
                return owner.places.count;
            case 1:
                return owner.toldTwice;
            case 2:
                return owner.clock.count;
            case 3:
                return owner.jumps(speedNow);
            case 4:
                return owner.gaps(limitNow);
            default:
                throw new IllegalArgumentException();
        }
    }

    public int at(int device, int place, int what) throws IndexOutOfBoundsException, IllegalArgumentException {
        Device owner = deviceWithPlace(device, place);
        switch (what) {
            case 0:
                return owner.places.seconds[place];
            case 1:
                return owner.places.xs[place];
            case 2:
                return owner.places.ys[place];
            case 3:
                return owner.trueTimeOf(place);
            default:
                throw new IllegalArgumentException();
        }
    }

    public int mark(int device, int second, int time)
            throws IndexOutOfBoundsException, IllegalArgumentException, IllegalStateException {
        Clock clock = deviceOf(device).clock;
        refuseOutside(second, 0, LAST_SECOND);
        refuseOutside(time, 0, LAST_SECOND);
        int number = clock.numberFor(second);
        refuseUnless(clock.fits(number, second, time));
        refuseMore(clock.count, MOST_MARKS);
        clock.insert(number, second, time);
        return clock.count;
    }

    public int time(int device, int second) throws IndexOutOfBoundsException, IllegalArgumentException {
        Clock clock = deviceOf(device).clock;
        refuseOutside(second, 0, LAST_SECOND);
        return clock.trueTime(second);
    }

    public int speed(int metres) throws IllegalArgumentException {
        refuseOutside(metres, 1, GREATEST_SPEED);
        int before = speedNow;
        speedNow = metres;
        return before;
    }

    public int limit(int seconds) throws IllegalArgumentException {
        refuseOutside(seconds, 1, GREATEST_LIMIT);
        int before = limitNow;
        limitNow = seconds;
        return before;
    }

    public int jump(int device, int k) throws IndexOutOfBoundsException {
        return deviceOf(device).placeOfJump(k, speedNow);
    }

    public int gap(int device, int k) throws IndexOutOfBoundsException {
        return deviceOf(device).placeBehindGap(k, limitNow);
    }

    public boolean could(int device, int k, int i, int j) throws IndexOutOfBoundsException, IllegalArgumentException {
        Device owner = deviceOf(device);
        int behind = owner.placeBehindGap(k, limitNow);
        if (behind == NONE) {
            throw new IndexOutOfBoundsException();
        }
        refuseOutside(i, -FARTHEST_CELL, FARTHEST_CELL);
        refuseOutside(j, -FARTHEST_CELL, FARTHEST_CELL);
        int thither = secondsFor(owner.places.squareToCell(behind - 1, i, j), speedNow);
        int onward = secondsFor(owner.places.squareToCell(behind, i, j), speedNow);
        return thither + onward <= owner.trueTimeBefore(behind);
    }

    public int fence() throws IllegalStateException {
        refuseMore(fenceCount, MOST_FENCES);
        return fenceCount++;
    }

    public int corner(int fence, int x, int y)
            throws IndexOutOfBoundsException, IllegalArgumentException, IllegalStateException {
        Fence owner = fenceOf(fence);
        refuseOutside(x, -FARTHEST_METRE, FARTHEST_METRE);
        refuseOutside(y, -FARTHEST_METRE, FARTHEST_METRE);
        refuseMore(owner.count, MOST_CORNERS);
        owner.append(x, y);
        return owner.count;
    }

    public boolean in(int device, int place, int fence) throws IndexOutOfBoundsException {
        Places places = deviceWithPlace(device, place).places;
        return fenceOf(fence).holds(places.xs[place], places.ys[place]);
    }

    public int port(int device, int place) throws IndexOutOfBoundsException {
        Places places = deviceWithPlace(device, place).places;
        for (int k = 0; k < fenceCount; k++) {
            if (fences[k].holds(places.xs[place], places.ys[place])) {
                return k;
            }
        }
        return NONE;
    }

    public int pack(int device) throws IndexOutOfBoundsException {
        packed.packFrom(deviceOf(device).places);
        return packed.count;
    }

    public int byteAt(int i) throws IndexOutOfBoundsException {
        refuseNumber(i, packed.count);
        return packed.row[i];
    }

    public int feed(int b) throws IllegalArgumentException, IllegalStateException {
        refuseOutside(b, 0, 255);
        refuseMore(fed.count, MOST_BYTES);
        fed.append(b);
        return fed.count;
    }

    public int read(int device) throws IndexOutOfBoundsException {
        Device owner = deviceOf(device);
        boolean sound = fed.unpackTo(unpacked);
        fed.count = 0;
        if (!sound) {
            return NONE;
        }
        owner.places.becomeAs(unpacked);
        return owner.places.count;
    }

    public int repeat(int device, int n) throws IndexOutOfBoundsException, IllegalArgumentException {
        Places places = deviceOf(device).places;
        refuseOutside(n, 1, MOST_STEPS_ASKED);
        return places.firstRepeat(n);
    }

    public int sight(int time, int x, int y) throws IllegalArgumentException, IllegalStateException {
        refuseUntellable(time, x, y);
        refuseMore(sights.count, MOST_SIGHTS);
        sights.insert(sights.count, time, x, y);
        return sights.count - 1;
    }

    public long weight(int sight, int device) throws IndexOutOfBoundsException {
        refuseNumber(sight, sights.count);
        return weightOf(sight, deviceOf(device));
    }

    public long matched() {
        matchAll();
        return matching.sum();
    }

    public int match(int sight) throws IndexOutOfBoundsException {
        refuseNumber(sight, sights.count);
        matchAll();
        return matching.chosen[sight];
    }

    public int told(int what) throws IllegalArgumentException {
        switch (what) {
            case 0:
                return deviceCount;
            case 1:
                return fenceCount;
            case 2:
                return sights.count;
            case 3:
                return packed.count;
            case 4:
                return fed.count;
            case 5:
                return speedNow;
            case 6:
                return limitNow;
            default:
                throw new IllegalArgumentException();
        }
    }

    private Device deviceOf(int number) {
        refuseNumber(number, deviceCount);
        return devices[number];
    }

    private Device deviceWithPlace(int number, int place) {
        Device owner = deviceOf(number);
        refuseNumber(place, owner.places.count);
        return owner;
    }

    private Fence fenceOf(int number) {
        refuseNumber(number, fenceCount);
        return fences[number];
    }

    private long weightOf(int sight, Device seen) {
        int nearest = seen.placeNearestTo(sights.seconds[sight]);
        return nearest == NONE ? NONE : seen.places.squareTo(nearest, sights.xs[sight], sights.ys[sight]);
    }

    private void matchAll() {
        for (int s = 0; s < sights.count; s++) {
            for (int d = 0; d < deviceCount; d++) {
                matching.weights[s][d] = weightOf(s, devices[d]);
            }
        }
        matching.choose(sights.count, deviceCount);
    }

    private static void refuseNumber(int number, int count) {
        if (number < 0 || number >= count) {
            throw new IndexOutOfBoundsException();
        }
    }

    private static void refuseOutside(int number, int least, int greatest) {
        refuseUnless(number >= least && number <= greatest);
    }

    private static void refuseUntellable(int second, int x, int y) {
        refuseUnless(isTellable(second, x, y));
    }

    private static void refuseUnless(boolean asTold) {
        if (!asTold) {
            throw new IllegalArgumentException();
        }
    }

    private static void refuseMore(int count, int most) {
        if (count >= most) {
            throw new IllegalStateException();
        }
    }

    private static boolean isTellable(int second, int x, int y) {
        return second >= 0 && second <= LAST_SECOND
                && x >= -FARTHEST_METRE && x <= FARTHEST_METRE
                && y >= -FARTHEST_METRE && y <= FARTHEST_METRE;
    }

    /** The least whole number of seconds in which a ship comes as far as the root of square. */
    private static int secondsFor(long square, int speed) {
        int least = 0;
        // No cell is as far as a million metres, so even at 1 metre a second this is enough.
        int enough = 1000000;
        while (least < enough) {
            int middle = (least + enough) >> 1;
            long reach = (long) speed * middle;
            if (reach * reach >= square) {
                enough = middle;
            } else {
                least = middle + 1;
            }
        }
        return least;
    }

    /** Rows of second, x and y, in the order in which they were put there. */
    private static final class Places {
        private final int most;
        private final int[] seconds;
        private final int[] xs;
        private final int[] ys;
        private int count = 0;

        Places(int most) {
            this.most = most;
            seconds = new int[most];
            xs = new int[most];
            ys = new int[most];
        }

        /** The number that a place with this second has, or would have. */
        int numberFor(int second) {
            int number = 0;
            while (number < count && seconds[number] < second) {
                number++;
            }
            return number;
        }

        boolean hasSecond(int number, int second) {
            return number < count && seconds[number] == second;
        }

        boolean isAt(int number, int x, int y) {
            return xs[number] == x && ys[number] == y;
        }

        void insert(int number, int second, int x, int y) {
            if (count >= most) {
                return;
            }
            for (int k = count; k > number; k--) {
                seconds[k] = seconds[k - 1];
                xs[k] = xs[k - 1];
                ys[k] = ys[k - 1];
            }
            seconds[number] = second;
            xs[number] = x;
            ys[number] = y;
            count++;
        }

        boolean mayFollow(int second, int x, int y) {
            boolean later = count == 0 || second > seconds[count - 1];
            return later && isTellable(second, x, y);
        }

        void becomeAs(Places other) {
            count = 0;
            for (int k = 0; k < other.count; k++) {
                insert(k, other.seconds[k], other.xs[k], other.ys[k]);
            }
        }

        long squareTo(int number, int x, int y) {
            long east = (long) x - xs[number];
            long north = (long) y - ys[number];
            return east * east + north * north;
        }

        long squareToCell(int number, int i, int j) {
            return squareTo(number, nearestInCell(xs[number], i), nearestInCell(ys[number], j));
        }

        private static int nearestInCell(int metre, int cell) {
            int first = CELL_METRES * cell;
            return Math.max(first, Math.min(metre, first + CELL_METRES - 1));
        }

        int firstRepeat(int n) {
            for (int j = n; j + n < count; j++) {
                for (int i = 0; i + n <= j; i++) {
                    if (sameSteps(i, j, n)) {
                        return j;
                    }
                }
            }
            return NONE;
        }

        private boolean sameSteps(int i, int j, int n) {
            for (int k = 0; k < n; k++) {
                if (!sameStep(i + k, j + k)) {
                    return false;
                }
            }
            return true;
        }

        private boolean sameStep(int i, int j) {
            return seconds[i + 1] - seconds[i] == seconds[j + 1] - seconds[j]
                    && xs[i + 1] - xs[i] == xs[j + 1] - xs[j]
                    && ys[i + 1] - ys[i] == ys[j + 1] - ys[j];
        }
    }

    /** The marks of a device, by their seconds. */
    private static final class Clock {
        private final int[] seconds = new int[MOST_MARKS];
        private final int[] times = new int[MOST_MARKS];
        private int count = 0;

        /** The number that a mark at this second has, or would have. */
        int numberFor(int second) {
            int number = 0;
            while (number < count && seconds[number] < second) {
                number++;
            }
            return number;
        }

        boolean fits(int number, int second, int trueSecond) {
            boolean behindEarlier = number == 0 || times[number - 1] < trueSecond;
            boolean beforeLater = number >= count
                    || (seconds[number] > second && times[number] > trueSecond);
            return behindEarlier && beforeLater;
        }

        void insert(int number, int second, int trueSecond) {
            if (count >= MOST_MARKS) {
                return;
            }
            for (int k = count; k > number; k--) {
                seconds[k] = seconds[k - 1];
                times[k] = times[k - 1];
            }
            seconds[number] = second;
            times[number] = trueSecond;
            count++;
        }

        int trueTime(int second) {
            if (count == 0) {
                return second;
            }
            int behind = numberFor(second);
            if (behind == 0) {
                return times[0] + second - seconds[0];
            }
            if (behind == count) {
                return times[count - 1] + second - seconds[count - 1];
            }
            return between(behind - 1, behind, second);
        }

        private int between(int before, int behind, int second) {
            int clockSpan = seconds[behind] - seconds[before];
            if (clockSpan <= 0) {
                return times[before];
            }
            long trueSpan = times[behind] - times[before];
            return times[before] + (int) ((second - seconds[before]) * trueSpan / clockSpan);
        }
    }

    /** A device: its places, its clock, and what both tell together. */
    private static final class Device {
        private final Places places = new Places(MOST_PLACES);
        private final Clock clock = new Clock();
        private int toldTwice = 0;

        int trueTimeOf(int number) {
            return clock.trueTime(places.seconds[number]);
        }

        /** The true time between the place before this one and this one. */
        int trueTimeBefore(int number) {
            return trueTimeOf(number) - trueTimeOf(number - 1);
        }

        private boolean isJump(int number, int speed) {
            long reach = (long) speed * trueTimeBefore(number);
            return places.squareTo(number, places.xs[number - 1], places.ys[number - 1]) > reach * reach;
        }

        private boolean isBehindGap(int number, int limit) {
            return trueTimeBefore(number) > limit;
        }

        int jumps(int speed) {
            int found = 0;
            for (int p = 1; p < places.count; p++) {
                if (isJump(p, speed)) {
                    found++;
                }
            }
            return found;
        }

        int gaps(int limit) {
            int found = 0;
            for (int p = 1; p < places.count; p++) {
                if (isBehindGap(p, limit)) {
                    found++;
                }
            }
            return found;
        }

        int placeOfJump(int k, int speed) {
            int found = 0;
            for (int p = 1; p < places.count; p++) {
                if (isJump(p, speed) && found++ == k) {
                    return p;
                }
            }
            return NONE;
        }

        int placeBehindGap(int k, int limit) {
            int found = 0;
            for (int p = 1; p < places.count; p++) {
                if (isBehindGap(p, limit) && found++ == k) {
                    return p;
                }
            }
            return NONE;
        }

        int placeNearestTo(int trueSecond) {
            int nearest = NONE;
            int least = 0;
            for (int p = 0; p < places.count; p++) {
                int away = Math.abs(trueTimeOf(p) - trueSecond);
                if (nearest == NONE || away < least) {
                    nearest = p;
                    least = away;
                }
            }
            return nearest;
        }
    }

    /** A fence: its corners, in their order. */
    private static final class Fence {
        private final int[] xs = new int[MOST_CORNERS];
        private final int[] ys = new int[MOST_CORNERS];
        private int count = 0;

        void append(int x, int y) {
            if (count >= MOST_CORNERS) {
                return;
            }
            xs[count] = x;
            ys[count] = y;
            count++;
        }

        boolean holds(int x, int y) {
            if (count < 3) {
                return false;
            }
            boolean odd = false;
            for (int k = 0; k < count; k++) {
                int next = k + 1 < count ? k + 1 : 0;
                long turn = turn(k, next, x, y);
                if (turn == 0 && isBeside(k, next, x, y)) {
                    return true;
                }
                boolean startsAbove = ys[k] > y;
                boolean endsAbove = ys[next] > y;
                // A side that goes up has the place on its left where it passes, one that goes down on its right.
                if (startsAbove != endsAbove && endsAbove == (turn > 0)) {
                    odd = !odd;
                }
            }
            return odd;
        }

        /** Above 0 if the point is on the left of the side, 0 if it is in line with it. */
        private long turn(int from, int to, int x, int y) {
            long sideEast = xs[to] - xs[from];
            long sideNorth = ys[to] - ys[from];
            return sideEast * (y - ys[from]) - sideNorth * (x - xs[from]);
        }

        private boolean isBeside(int from, int to, int x, int y) {
            return x >= Math.min(xs[from], xs[to]) && x <= Math.max(xs[from], xs[to])
                    && y >= Math.min(ys[from], ys[to]) && y <= Math.max(ys[from], ys[to]);
        }
    }

    /** A row of bytes, written as packed places or taken apart again. */
    private static final class Bytes {
        // The greatest number of a place that may stand, 2000000, has 21 bits.
        private static final int LONGEST_NUMBER = 3;

        private final int[] row = new int[MOST_BYTES];
        private int count = 0;
        private int next = 0;
        private boolean sound = true;

        void append(int b) {
            if (count < MOST_BYTES) {
                row[count] = b;
                count++;
            }
        }

        void packFrom(Places places) {
            count = 0;
            int second = 0;
            int x = 0;
            int y = 0;
            for (int p = 0; p < places.count; p++) {
                appendDifference(places.seconds[p] - second);
                appendDifference(places.xs[p] - x);
                appendDifference(places.ys[p] - y);
                second = places.seconds[p];
                x = places.xs[p];
                y = places.ys[p];
            }
        }

        private void appendDifference(int d) {
            int rest = d >= 0 ? 2 * d : -2 * d - 1;
            for (; rest > 127; rest >>= 7) {
                append(128 + (rest & 127));
            }
            append(rest);
        }

        /** Whether the bytes are whole packed places; only then these are what they say. */
        boolean unpackTo(Places places) {
            places.count = 0;
            next = 0;
            sound = true;
            int second = 0;
            int x = 0;
            int y = 0;
            for (int p = 0; p < MOST_PLACES && next < count; p++) {
                second += nextDifference();
                x += nextDifference();
                y += nextDifference();
                if (!sound || !places.mayFollow(second, x, y)) {
                    return false;
                }
                places.insert(p, second, x, y);
            }
            return next == count;
        }

        private int nextDifference() {
            int number = 0;
            for (int k = 0; k < LONGEST_NUMBER && next < count; k++) {
                int b = row[next];
                next++;
                number += (b & 127) << (7 * k);
                if (b < 128) {
                    // pack() never ends a longer number with a byte of no bits.
                    sound = sound && (b > 0 || k == 0);
                    return (number & 1) == 0 ? number >> 1 : -(number >> 1) - 1;
                }
            }
            sound = false;
            return 0;
        }
    }

    /** Finds which sight has which device, by the least sum for every set of devices that are taken. */
    private static final class Matching {
        // More than all weights together, so that one pair more is always less.
        private static final long WITHOUT = 1000000000000L;

        private final long[][] weights = new long[MOST_SIGHTS][MOST_DEVICES];
        private final long[][] least = new long[MOST_SIGHTS + 1][1 << MOST_DEVICES];
        private final int[] chosen = new int[MOST_SIGHTS];
        private int sightCount = 0;
        private int deviceCount = 0;

        void choose(int sights, int devices) {
            sightCount = Math.min(sights, MOST_SIGHTS);
            deviceCount = Math.min(devices, MOST_DEVICES);
            sumUp();
            int taken = 0;
            for (int s = 0; s < sightCount; s++) {
                chosen[s] = firstBest(s, taken);
                taken |= chosen[s] == NONE ? 0 : 1 << chosen[s];
            }
        }

        long sum() {
            long sum = 0;
            for (int s = 0; s < sightCount; s++) {
                sum += chosen[s] == NONE ? 0 : weights[s][chosen[s]];
            }
            return sum;
        }

        private void sumUp() {
            int sets = 1 << deviceCount;
            for (int taken = 0; taken < sets; taken++) {
                least[sightCount][taken] = 0;
            }
            for (int s = sightCount - 1; s >= 0; s--) {
                for (int taken = 0; taken < sets; taken++) {
                    least[s][taken] = sumWith(s, taken, firstBest(s, taken));
                }
            }
        }

        /** The device of a sight, if these are taken, with which it and the later sights have the least sum. */
        private int firstBest(int s, int taken) {
            int best = NONE;
            long bestSum = sumWith(s, taken, NONE);
            // Backwards, so that of equal sums the first device stays, and any device before none.
            for (int d = deviceCount - 1; d >= 0; d--) {
                if ((taken & (1 << d)) == 0 && weights[s][d] != NONE && sumWith(s, taken, d) <= bestSum) {
                    best = d;
                    bestSum = sumWith(s, taken, d);
                }
            }
            return best;
        }

        private long sumWith(int s, int taken, int d) {
            return d == NONE ? WITHOUT + least[s + 1][taken] : weights[s][d] + least[s + 1][taken | (1 << d)];
        }
    }
}
