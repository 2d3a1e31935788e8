/** Objects that have been used, for tests to go on with; none takes more than 110 calls. */
final class Made {
    private Made() {
    }

    static void nothing(TrackRows t) {
        // A new object as it is.
    }

    /** Something of everything, and room for more of each. */
    static void some(TrackRows t) {
        t.device();
        t.device();
        t.place(0, 2000, 3000, 5000);
        t.place(0, 100, 0, 0);
        t.place(0, 400, 3000, 0);
        t.place(0, 2010, 3010, 5000);
        t.place(0, 2020, 3020, 5000);
        t.place(0, 400, 3000, 0);
        t.place(1, 450, -20, 30);
        t.mark(0, 500, 520);
        t.mark(0, 100, 90);
        t.fence();
        t.fence();
        t.corner(0, -10, -10);
        t.corner(0, 4000, -10);
        t.corner(0, 4000, 10);
        t.corner(0, -10, 10);
        t.corner(1, 0, 0);
        t.corner(1, 3000, 0);
        t.sight(120, 5, 5);
        t.sight(460, 0, 0);
        t.speed(7);
        t.limit(300);
        t.pack(0);
        for (int b : new int[] {8, 0, 1, 2, 2, 130, 1}) {
            t.feed(b);
        }
    }

    /** As many as there may be: devices, fences, sights; places and marks of device 0; corners of fence 0. */
    static void full(TrackRows t) {
        for (int k = 0; k < 5; k++) {
            t.device();
            t.sight(100 * k, k, -k);
        }
        for (int k = 0; k < 60; k++) {
            t.place(0, 10 + 10 * k, k % 7, k % 5);
        }
        for (int k = 0; k < 8; k++) {
            t.mark(0, 100 + 10 * k, 200 + 11 * k);
        }
        for (int k = 0; k < 4; k++) {
            t.fence();
        }
        int[] corners = {-1, -1, 1, -2, 3, -1, 4, 1, 3, 3, 1, 4, -1, 3, -2, 1};
        for (int k = 0; k < 16; k += 2) {
            t.corner(0, corners[k], corners[k + 1]);
        }
        t.place(4, 30, 3, 3);
        t.pack(4);
        t.feed(2);
        t.feed(0);
        t.feed(0);
    }
}
