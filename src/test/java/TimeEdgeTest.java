/** Boundary sentences on marks, true times, jumps and gaps: promises 4 to 7, 10 and 11. */
public final class TimeEdgeTest {
    private static final int NONE = TrackRows.NONE;

    public static void main(String[] args) {
        withoutMarks();
        beforeTheFirstMark();
        behindTheLastMark();
        betweenIsDownward();
        betweenGreatNumbers();
        betweenMarksNextToEachOther();
        atAMark();
        laterMeansGreater();
        oneMarkASecond();
        marksAtTheEnds();
        trueTimeOfAPlace();
        firstPlaceIsNoJump();
        justAsFarIsNoJump();
        noTrueTimeBetween();
        jumpOfGreatNumbers();
        justTheLimitIsNoGap();
        gapOfGreatNumbers();
        gapsAndJumpsByTrueTime();
        numberedFromZero();
        Check.end();
    }

    private static TrackRows withMarks(int... numbers) {
        TrackRows t = new TrackRows();
        t.device();
        for (int k = 0; k < numbers.length; k += 2) {
            Check.is("mark", t.mark(0, numbers[k], numbers[k + 1]), k / 2 + 1);
        }
        return t;
    }

    // "without marks s"
    private static void withoutMarks() {
        TrackRows t = withMarks();
        Check.is("time 0", t.time(0, 0), 0);
        Check.is("time 1", t.time(0, 1), 1);
        Check.is("time 999999", t.time(0, 999999), 999999);
        Check.is("time 1000000", t.time(0, 1000000), 1000000);
        t.device();
        t.mark(1, 0, 7);
        Check.is("marks of another device", t.time(0, 0), 0);
    }

    // "before the first mark, s0 with t0 ..: t0 and s - s0": it may be below 0.
    private static void beforeTheFirstMark() {
        TrackRows t = withMarks(1000000, 0);
        Check.is("far before", t.time(0, 0), -1000000);
        Check.is("a second before", t.time(0, 999999), -1);
        TrackRows u = withMarks(10, 5, 20, 500, 30, 501);
        Check.is("a second before the first of three", u.time(0, 9), 4);
        Check.is("ten before", u.time(0, 0), -5);
    }

    // "and behind the last one: t0 and s - s0": of the last one; it may be above 1000000.
    private static void behindTheLastMark() {
        TrackRows t = withMarks(0, 1000000);
        Check.is("far behind", t.time(0, 1000000), 2000000);
        Check.is("a second behind", t.time(0, 1), 1000001);
        TrackRows u = withMarks(10, 5, 20, 500, 30, 501);
        Check.is("a second behind the last of three", u.time(0, 31), 502);
        Check.is("at the end", u.time(0, 1000000), 1000471);
    }

    // "t0 and (s - s0) (t1 - t0) / (s1 - s0), downward"
    private static void betweenIsDownward() {
        TrackRows t = withMarks(100, 10, 110, 13);
        int[] due = {10, 10, 10, 10, 11, 11, 11, 12, 12, 12, 13, 14};
        for (int k = 0; k < due.length; k++) {
            Check.is("time " + (100 + k), t.time(0, 100 + k), due[k]);
        }
        TrackRows u = withMarks(0, 0, 3, 8);
        Check.is("2 2/3", u.time(0, 1), 2);
        Check.is("5 1/3", u.time(0, 2), 5);
    }

    /** Products beyond 32 bits. */
    private static void betweenGreatNumbers() {
        TrackRows t = withMarks(0, 0, 1000000, 999999);
        Check.is("time 1", t.time(0, 1), 0);
        Check.is("time 999999", t.time(0, 999999), 999998);
        Check.is("time 500000", t.time(0, 500000), 499999);
        TrackRows u = withMarks(0, 1, 1000000, 1000000);
        Check.is("time 1, from 1 on", u.time(0, 1), 1);
        Check.is("time 999999, from 1 on", u.time(0, 999999), 999999);
    }

    // "between two marks that are next to each other": one told later comes between.
    private static void betweenMarksNextToEachOther() {
        TrackRows t = withMarks(0, 0, 100, 1000);
        Check.is("of two", t.time(0, 50), 500);
        Check.is("a third between", t.mark(0, 60, 60), 3);
        Check.is("of the first two now", t.time(0, 50), 50);
        Check.is("of the last two now", t.time(0, 80), 530);
        Check.is("a fourth between", t.mark(0, 40, 1), 4);
        Check.is("of the middle two now", t.time(0, 50), 30);
    }

    private static void atAMark() {
        TrackRows t = withMarks(7, 3, 8, 400, 1000, 401);
        Check.is("first", t.time(0, 7), 3);
        Check.is("middle", t.time(0, 8), 400);
        Check.is("last", t.time(0, 1000), 401);
        Check.is("just before the last", t.time(0, 999), 400);
    }

    // "a mark at a later second has a greater true one"; "if it is not as told beside the others"
    private static void laterMeansGreater() {
        Check.CallOn made = t -> {
            t.device();
            t.device();
            t.mark(0, 100, 50);
            t.mark(0, 300, 60);
        };
        Check.notTold("later, as great as the last", made, t -> t.mark(0, 301, 60));
        Check.notTold("later, less than the last", made, t -> t.mark(0, 301, 59));
        Check.notTold("earlier, as great as the first", made, t -> t.mark(0, 99, 50));
        Check.notTold("earlier, greater than the first", made, t -> t.mark(0, 99, 51));
        Check.notTold("between, as the first", made, t -> t.mark(0, 200, 50));
        Check.notTold("between, as the second", made, t -> t.mark(0, 200, 60));
        Check.notTold("between, less than both", made, t -> t.mark(0, 200, 0));
        Check.notTold("between, greater than both", made, t -> t.mark(0, 200, 1000000));
        TrackRows t = new TrackRows();
        made.run(t);
        Check.is("a little greater than the last", t.mark(0, 301, 61), 3);
        Check.is("a little less than the first", t.mark(0, 99, 49), 4);
        Check.is("a little greater than the first", t.mark(0, 101, 51), 5);
        Check.is("a little less than the second", t.mark(0, 299, 59), 6);
        Check.is("of another device", t.mark(1, 301, 59), 1);
    }

    // "or one at this second is there"
    private static void oneMarkASecond() {
        Check.CallOn made = t -> {
            t.device();
            t.mark(0, 100, 50);
            t.mark(0, 300, 60);
            t.mark(0, 500, 70);
        };
        for (int second : new int[] {100, 300, 500}) {
            for (int time : new int[] {0, 50, 51, 60, 61, 69, 70, 71, 1000000}) {
                Check.notTold("mark " + second + " " + time, made, t -> t.mark(0, second, time));
            }
        }
    }

    private static void marksAtTheEnds() {
        TrackRows t = withMarks(1000000, 1000000, 0, 0);
        Check.is("time 0", t.time(0, 0), 0);
        Check.is("time 1000000", t.time(0, 1000000), 1000000);
        Check.is("time between", t.time(0, 123456), 123456);
        Check.is("marks", t.has(0, 2), 2);
    }

    // "TRUE TIME (3)" of a place: by the marks as they are now.
    private static void trueTimeOfAPlace() {
        TrackRows t = withMarks();
        t.place(0, 0, 1, 1);
        t.place(0, 1000000, 1, 1);
        Check.is("without marks", t.at(0, 1, 3), 1000000);
        t.mark(0, 1000000, 5);
        Check.is("before the first mark", t.at(0, 0, 3), -999995);
        Check.is("at it", t.at(0, 1, 3), 5);
        t.mark(0, 0, 1);
        Check.is("at the new first mark", t.at(0, 0, 3), 1);
    }

    // "A JUMP is a place (but the first)"
    private static void firstPlaceIsNoJump() {
        TrackRows t = withMarks();
        t.place(0, 0, 100000, 100000);
        Check.is("jumps", t.has(0, 3), 0);
        Check.is("jump", t.jump(0, 0), NONE);
        t.place(0, 1, -100000, -100000);
        Check.is("jumps of two", t.has(0, 3), 1);
        Check.is("the second one", t.jump(0, 0), 1);
    }

    // "farther from the one before than SPEED, metres a second, times the true time between them"
    private static void justAsFarIsNoJump() {
        TrackRows t = withMarks();
        t.place(0, 0, 0, 0);
        t.place(0, 1, 10, 0);
        t.place(0, 2, 4, -8);
        Check.is("10 metres each", t.has(0, 3), 0);
        t.place(0, 3, 4, 3);
        Check.is("11 metres", t.jump(0, 0), 3);
        t.place(0, 4, 10, -6);
        Check.is("6 and 9 metres", t.jump(0, 1), 4);
        t.place(0, 5, 7, -15);
        Check.is("3 and 9 metres", t.has(0, 3), 2);
        t.speed(9);
        Check.is("at 9 metres a second", t.has(0, 3), 5);
        t.speed(11);
        Check.is("at 11 metres a second", t.has(0, 3), 0);
    }

    /** Without true time between them every way is too far, but none at all is not. */
    private static void noTrueTimeBetween() {
        TrackRows t = withMarks(0, 0, 1000, 1);
        t.place(0, 10, 5, 5);
        t.place(0, 11, 5, 5);
        t.place(0, 12, 5, 6);
        t.speed(100);
        Check.is("jumps", t.has(0, 3), 1);
        Check.is("the one that moved", t.jump(0, 0), 2);
        t.limit(1);
        Check.is("gaps", t.has(0, 4), 0);
    }

    private static void jumpOfGreatNumbers() {
        TrackRows t = withMarks();
        t.place(0, 0, -100000, -100000);
        t.place(0, 2828, 100000, 100000);
        t.speed(100);
        Check.is("282842.7 metres in 2828 seconds", t.has(0, 3), 1);
        t.mark(0, 0, 0);
        t.mark(0, 2828, 2829);
        Check.is("in 2829 seconds", t.has(0, 3), 0);
        TrackRows u = withMarks(500000, 0, 500001, 1000000);
        u.speed(100);
        u.place(0, 0, 0, 0);
        u.place(0, 1000000, 100000, 100000);
        Check.is("1999999 seconds", u.at(0, 1, 3) - u.at(0, 0, 3), 1999999);
        Check.is("no jump in all that time", u.has(0, 3), 0);
        Check.is("but a gap", u.gap(0, 0), 1);
    }

    // "more true time between them than the LIMIT"
    private static void justTheLimitIsNoGap() {
        TrackRows t = withMarks();
        t.place(0, 0, 0, 0);
        t.place(0, 50, 0, 0);
        t.limit(49);
        Check.is("a second more than the limit", t.gap(0, 0), 1);
        t.limit(50);
        Check.is("just the limit", t.gap(0, 0), NONE);
        Check.is("no gaps", t.has(0, 4), 0);
        t.limit(51);
        Check.is("less", t.has(0, 4), 0);
    }

    private static void gapOfGreatNumbers() {
        TrackRows t = withMarks();
        t.limit(100000);
        t.place(0, 0, 0, 0);
        t.place(0, 100000, 0, 0);
        Check.is("100000 seconds", t.has(0, 4), 0);
        t.place(0, 200001, 0, 0);
        Check.is("100001 seconds", t.gap(0, 0), 2);
        t.place(0, 1000000, 0, 0);
        Check.is("the rest", t.gap(0, 1), 3);
        TrackRows u = withMarks();
        u.limit(1);
        u.place(0, 7, 0, 0);
        Check.is("one place has no gap", u.has(0, 4), 0);
        u.place(0, 8, 0, 0);
        Check.is("a second is no gap", u.has(0, 4), 0);
        u.place(0, 10, 0, 0);
        Check.is("two are", u.gap(0, 0), 2);
    }

    private static void gapsAndJumpsByTrueTime() {
        TrackRows t = withMarks();
        t.place(0, 0, 0, 0);
        t.place(0, 600, 6000, 0);
        Check.is("gaps by the clock", t.has(0, 4), 0);
        Check.is("jumps by the clock", t.has(0, 3), 0);
        t.mark(0, 0, 0);
        t.mark(0, 600, 601);
        Check.is("a true second more", t.gap(0, 0), 1);
        Check.is("no jump", t.has(0, 3), 0);
        TrackRows u = withMarks(0, 0, 600, 599);
        u.place(0, 0, 0, 0);
        u.place(0, 600, 6000, 0);
        Check.is("a true second less: no gap", u.has(0, 4), 0);
        Check.is("but a jump", u.jump(0, 0), 1);
    }

    // "Both are numbered from 0 on, in their order"; "NONE if there is none such"
    private static void numberedFromZero() {
        TrackRows t = withMarks();
        for (int k = 0; k < 60; k++) {
            t.place(0, 700 * k, k % 2 == 0 ? -100000 : 100000, 0);
        }
        Check.is("jumps", t.has(0, 3), 59);
        Check.is("gaps", t.has(0, 4), 59);
        for (int k = 0; k < 59; k++) {
            Check.is("jump " + k, t.jump(0, k), k + 1);
            Check.is("gap " + k, t.gap(0, k), k + 1);
        }
        for (int k : new int[] {-1, 59, 60, Integer.MIN_VALUE, Integer.MAX_VALUE}) {
            Check.is("jump " + k, t.jump(0, k), NONE);
            Check.is("gap " + k, t.gap(0, k), NONE);
        }
    }
}
