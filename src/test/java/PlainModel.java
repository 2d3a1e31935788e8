import java.math.BigInteger;
import java.util.ArrayList;
import java.util.List;
import java.util.Map;
import java.util.TreeMap;

/** The document's words a second time, written as plainly and as differently as they can be. */
final class PlainModel {
    private static final class Ship {
        final TreeMap<Integer, int[]> places = new TreeMap<>();
        final TreeMap<Integer, Integer> marks = new TreeMap<>();
        int twice = 0;

        List<int[]> rows() {
            List<int[]> rows = new ArrayList<>();
            for (Map.Entry<Integer, int[]> e : places.entrySet()) {
                rows.add(new int[] {e.getKey(), e.getValue()[0], e.getValue()[1], trueTime(e.getKey())});
            }
            return rows;
        }

        int trueTime(int s) {
            if (marks.isEmpty()) {
                return s;
            }
            Map.Entry<Integer, Integer> low = marks.floorEntry(s);
            Map.Entry<Integer, Integer> high = marks.higherEntry(s);
            if (low == null || high == null) {
                Map.Entry<Integer, Integer> only = low == null ? high : low;
                return only.getValue() + s - only.getKey();
            }
            BigInteger up = BigInteger.valueOf(s - low.getKey())
                    .multiply(BigInteger.valueOf(high.getValue() - low.getValue()));
            return low.getValue() + up.divide(BigInteger.valueOf(high.getKey() - low.getKey())).intValue();
        }
    }

    private final List<Ship> ships = new ArrayList<>();
    private final List<List<int[]>> fences = new ArrayList<>();
    private final List<int[]> sights = new ArrayList<>();
    private List<Integer> packed = new ArrayList<>();
    private final List<Integer> fed = new ArrayList<>();
    private int speed = 10;
    private int limit = 600;
    private long bestSum;
    private int bestPairs;
    private int[] best;

    private static void index(boolean there) {
        if (!there) {
            throw new IndexOutOfBoundsException();
        }
    }

    private static void argument(boolean told) {
        if (!told) {
            throw new IllegalArgumentException();
        }
    }

    private static void state(boolean room) {
        if (!room) {
            throw new IllegalStateException();
        }
    }

    private static boolean metre(int m) {
        return Math.abs((long) m) <= 100000;
    }

    private static boolean second(int s) {
        return 0 <= s && s <= 1000000;
    }

    private Ship ship(int d) {
        index(0 <= d && d < ships.size());
        return ships.get(d);
    }

    private int[] row(int d, int p) {
        Ship ship = ship(d);
        index(0 <= p && p < ship.places.size());
        return ship.rows().get(p);
    }

    int device() {
        state(ships.size() < 5);
        ships.add(new Ship());
        return ships.size() - 1;
    }

    int place(int d, int s, int x, int y) {
        Ship ship = ship(d);
        argument(second(s) && metre(x) && metre(y));
        int[] there = ship.places.get(s);
        if (there != null) {
            argument(there[0] == x && there[1] == y);
            ship.twice++;
            return -2;
        }
        state(ship.places.size() < 60);
        ship.places.put(s, new int[] {x, y});
        return ship.places.headMap(s).size();
    }

    int has(int d, int what) {
        Ship ship = ship(d);
        argument(0 <= what && what <= 4);
        return new int[] {ship.places.size(), ship.twice, ship.marks.size(), jumps(ship).size(),
            gaps(ship).size()}[what];
    }

    int at(int d, int p, int what) {
        int[] row = row(d, p);
        argument(0 <= what && what <= 3);
        return row[what];
    }

    int mark(int d, int s, int time) {
        Ship ship = ship(d);
        argument(second(s) && second(time));
        for (Map.Entry<Integer, Integer> e : ship.marks.entrySet()) {
            argument(e.getKey() != s && e.getKey() < s == e.getValue() < time && e.getValue() != time);
        }
        state(ship.marks.size() < 8);
        ship.marks.put(s, time);
        return ship.marks.size();
    }

    int time(int d, int s) {
        Ship ship = ship(d);
        argument(second(s));
        return ship.trueTime(s);
    }

    int speed(int metres) {
        argument(1 <= metres && metres <= 100);
        int was = speed;
        speed = metres;
        return was;
    }

    int limit(int seconds) {
        argument(1 <= seconds && seconds <= 100000);
        int was = limit;
        limit = seconds;
        return was;
    }

    private static BigInteger square(long n) {
        return BigInteger.valueOf(n).multiply(BigInteger.valueOf(n));
    }

    private static BigInteger distance2(int x0, int y0, int x1, int y1) {
        return square((long) x1 - x0).add(square((long) y1 - y0));
    }

    private List<Integer> jumps(Ship ship) {
        List<Integer> found = new ArrayList<>();
        List<int[]> rows = ship.rows();
        for (int p = 1; p < rows.size(); p++) {
            int[] a = rows.get(p - 1);
            int[] b = rows.get(p);
            if (distance2(a[1], a[2], b[1], b[2]).compareTo(square((long) speed * (b[3] - a[3]))) > 0) {
                found.add(p);
            }
        }
        return found;
    }

    private List<Integer> gaps(Ship ship) {
        List<Integer> found = new ArrayList<>();
        List<int[]> rows = ship.rows();
        for (int p = 1; p < rows.size(); p++) {
            if (rows.get(p)[3] - rows.get(p - 1)[3] > limit) {
                found.add(p);
            }
        }
        return found;
    }

    private static int nth(List<Integer> list, int k) {
        return 0 <= k && k < list.size() ? list.get(k) : -1;
    }

    int jump(int d, int k) {
        return nth(jumps(ship(d)), k);
    }

    int gap(int d, int k) {
        return nth(gaps(ship(d)), k);
    }

    boolean could(int d, int k, int i, int j) {
        Ship ship = ship(d);
        int behind = nth(gaps(ship), k);
        index(behind != -1);
        argument(Math.abs((long) i) <= 200 && Math.abs((long) j) <= 200);
        int[] a = ship.rows().get(behind - 1);
        int[] b = ship.rows().get(behind);
        long first = cell2(a, i, j);
        long second = cell2(b, i, j);
        int whole = b[3] - a[3];
        for (int n = 0; n <= whole; n++) {
            long there = (long) speed * n;
            long onward = (long) speed * (whole - n);
            if (there * there >= first && onward * onward >= second) {
                return true;
            }
        }
        return false;
    }

    private static long cell2(int[] row, int i, int j) {
        long east = away(row[1], 1000L * i);
        long north = away(row[2], 1000L * j);
        return east * east + north * north;
    }

    private static long away(int m, long from) {
        return m < from ? from - m : m > from + 999 ? m - from - 999 : 0;
    }

    int fence() {
        state(fences.size() < 4);
        fences.add(new ArrayList<>());
        return fences.size() - 1;
    }

    int corner(int f, int x, int y) {
        index(0 <= f && f < fences.size());
        argument(metre(x) && metre(y));
        state(fences.get(f).size() < 8);
        fences.get(f).add(new int[] {x, y});
        return fences.get(f).size();
    }

    boolean in(int d, int p, int f) {
        int[] row = row(d, p);
        index(0 <= f && f < fences.size());
        return inFence(row[1], row[2], fences.get(f));
    }

    private static boolean inFence(int x, int y, List<int[]> corners) {
        int passing = 0;
        for (int k = 0; k < corners.size(); k++) {
            int[] a = corners.get(k);
            int[] b = corners.get((k + 1) % corners.size());
            if (corners.size() >= 3 && onSide(x, y, a, b)) {
                return true;
            }
            int[] low = a[1] <= b[1] ? a : b;
            int[] high = a[1] <= b[1] ? b : a;
            if (high[1] > y && low[1] <= y) {
                long tall = high[1] - low[1];
                long xTimesTall = low[0] * tall + (long) (y - low[1]) * (high[0] - low[0]);
                passing += xTimesTall > x * tall ? 1 : 0;
            }
        }
        return corners.size() >= 3 && passing % 2 == 1;
    }

    /** On a side: what is left from there to both ends points in opposite ways, or is nothing. */
    private static boolean onSide(int x, int y, int[] a, int[] b) {
        long ax = a[0] - x;
        long ay = a[1] - y;
        long bx = b[0] - x;
        long by = b[1] - y;
        return ax * by == ay * bx && ax * bx + ay * by <= 0;
    }

    int port(int d, int p) {
        row(d, p);
        for (int f = 0; f < fences.size(); f++) {
            if (in(d, p, f)) {
                return f;
            }
        }
        return -1;
    }

    private static List<Integer> packedOf(List<int[]> rows) {
        List<Integer> bytes = new ArrayList<>();
        int[] before = new int[3];
        for (int[] row : rows) {
            for (int part = 0; part < 3; part++) {
                int d = row[part] - before[part];
                String bits = Integer.toBinaryString(d >= 0 ? 2 * d : -2 * d - 1);
                while (bits.length() > 7) {
                    bytes.add(128 + Integer.parseInt(bits.substring(bits.length() - 7), 2));
                    bits = bits.substring(0, bits.length() - 7);
                }
                bytes.add(Integer.parseInt(bits, 2));
            }
            before = row;
        }
        return bytes;
    }

    int pack(int d) {
        packed = packedOf(ship(d).rows());
        return packed.size();
    }

    int byteAt(int i) {
        index(0 <= i && i < packed.size());
        return packed.get(i);
    }

    int feed(int b) {
        argument(0 <= b && b <= 255);
        state(fed.size() < 600);
        fed.add(b);
        return fed.size();
    }

    /** Reads numbers of any length, and takes places only if packing them gives just these bytes. */
    int read(int d) {
        Ship ship = ship(d);
        List<Integer> bytes = new ArrayList<>(fed);
        fed.clear();
        List<BigInteger> numbers = new ArrayList<>();
        BigInteger number = BigInteger.ZERO;
        int shift = 0;
        for (int b : bytes) {
            number = number.add(BigInteger.valueOf(b % 128).shiftLeft(shift));
            shift += 7;
            if (b < 128) {
                numbers.add(number);
                number = BigInteger.ZERO;
                shift = 0;
            }
        }
        List<int[]> rows = rowsOf(numbers);
        if (shift != 0 || rows == null || !packedOf(rows).equals(bytes)) {
            return -1;
        }
        ship.places.clear();
        for (int[] row : rows) {
            ship.places.put(row[0], new int[] {row[1], row[2]});
        }
        return rows.size();
    }

    private static List<int[]> rowsOf(List<BigInteger> numbers) {
        if (numbers.size() % 3 != 0 || numbers.size() > 180) {
            return null;
        }
        List<int[]> rows = new ArrayList<>();
        int[] row = new int[3];
        for (int k = 0; k < numbers.size(); k += 3) {
            int[] next = new int[3];
            for (int part = 0; part < 3; part++) {
                BigInteger n = numbers.get(k + part);
                if (n.bitLength() > 30) {
                    return null;
                }
                int v = n.intValue();
                next[part] = row[part] + (v % 2 == 0 ? v / 2 : -(v + 1) / 2);
            }
            if (!second(next[0]) || !metre(next[1]) || !metre(next[2]) || k > 0 && next[0] <= row[0]) {
                return null;
            }
            rows.add(next);
            row = next;
        }
        return rows;
    }

    int repeat(int d, int n) {
        Ship ship = ship(d);
        argument(1 <= n && n <= 30);
        List<int[]> rows = ship.rows();
        List<String> steps = new ArrayList<>();
        for (int p = 1; p < rows.size(); p++) {
            int[] a = rows.get(p - 1);
            int[] b = rows.get(p);
            steps.add((b[0] - a[0]) + " " + (b[1] - a[1]) + " " + (b[2] - a[2]));
        }
        for (int j = 0; j + n <= steps.size(); j++) {
            for (int i = 0; i + n <= j; i++) {
                if (steps.subList(i, i + n).equals(steps.subList(j, j + n))) {
                    return j;
                }
            }
        }
        return -1;
    }

    int sight(int time, int x, int y) {
        argument(second(time) && metre(x) && metre(y));
        state(sights.size() < 5);
        sights.add(new int[] {time, x, y});
        return sights.size() - 1;
    }

    long weight(int s, int d) {
        index(0 <= s && s < sights.size());
        int[] sight = sights.get(s);
        int[] nearest = null;
        for (int[] row : ship(d).rows()) {
            if (nearest == null || Math.abs(row[3] - sight[0]) < Math.abs(nearest[3] - sight[0])) {
                nearest = row;
            }
        }
        return nearest == null ? -1 : distance2(nearest[1], nearest[2], sight[1], sight[2]).longValue();
    }

    long matched() {
        matchAll();
        return bestSum;
    }

    int match(int s) {
        index(0 <= s && s < sights.size());
        matchAll();
        return best[s];
    }

    private void matchAll() {
        bestPairs = -1;
        bestSum = 0;
        best = new int[sights.size()];
        tryAll(new int[sights.size()], 0, 0, 0);
    }

    /** Every way, the first ones first, so that only a better one takes the place of another. */
    private void tryAll(int[] way, int s, int pairs, long sum) {
        if (s == way.length) {
            if (pairs > bestPairs || pairs == bestPairs && sum < bestSum) {
                bestPairs = pairs;
                bestSum = sum;
                best = way.clone();
            }
            return;
        }
        for (int d = 0; d < ships.size(); d++) {
            boolean free = weight(s, d) >= 0;
            for (int k = 0; k < s; k++) {
                free &= way[k] != d;
            }
            if (free) {
                way[s] = d;
                tryAll(way, s + 1, pairs + 1, sum + weight(s, d));
            }
        }
        way[s] = -1;
        tryAll(way, s + 1, pairs, sum);
    }

    int told(int what) {
        argument(0 <= what && what <= 6);
        return new int[] {ships.size(), fences.size(), sights.size(), packed.size(), fed.size(), speed,
            limit}[what];
    }
}
