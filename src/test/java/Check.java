/** Keeps the score of one test class. */
final class Check {
    private static int asked = 0;
    private static int wrong = 0;

    private Check() {
    }

    interface Call {
        void run();
    }

    interface CallOn {
        void run(TrackRows t);
    }

    static void is(String what, long got, long due) {
        asked++;
        if (got != due) {
            wrong++;
            System.out.println(what + " answered " + got + ", due is " + due);
        }
    }

    static void is(String what, boolean got, boolean due) {
        is(what, got ? 1 : 0, due ? 1 : 0);
    }

    static void noSuch(String what, Call call) {
        refused(what, call, IndexOutOfBoundsException.class);
    }

    static void notTold(String what, Call call) {
        refused(what, call, IllegalArgumentException.class);
    }

    static void tooMany(String what, Call call) {
        refused(what, call, IllegalStateException.class);
    }

    /** The same three, and that the refused call changed nothing of an object that was made so. */
    static void noSuch(String what, CallOn made, CallOn call) {
        refusedAndUnchanged(what, made, call, IndexOutOfBoundsException.class);
    }

    static void notTold(String what, CallOn made, CallOn call) {
        refusedAndUnchanged(what, made, call, IllegalArgumentException.class);
    }

    static void tooMany(String what, CallOn made, CallOn call) {
        refusedAndUnchanged(what, made, call, IllegalStateException.class);
    }

    private static void refused(String what, Call call, Class<?> due) {
        asked++;
        String got = "nothing";
        try {
            call.run();
        } catch (RuntimeException e) {
            got = e.getClass().getName();
        }
        if (!got.equals(due.getName())) {
            wrong++;
            System.out.println(what + " threw " + got + ", due is " + due.getName());
        }
    }

    private static void refusedAndUnchanged(String what, CallOn made, CallOn call, Class<?> due) {
        for (int part = 0; part < Looks.PARTS; part++) {
            TrackRows without = new TrackRows();
            made.run(without);
            TrackRows with = new TrackRows();
            made.run(with);
            refused(what, () -> call.run(with), due);
            alike(what + " changed something", Looks.at(with, part), Looks.at(without, part));
        }
    }

    private static void alike(String what, String got, String due) {
        asked++;
        if (!got.equals(due)) {
            wrong++;
            System.out.println(what + ": " + got + ", due is " + due);
        }
    }

    static void end() {
        System.out.println(asked + " answers looked at, " + wrong + " wrong");
        if (wrong > 0 || asked == 0) {
            System.exit(1);
        }
    }
}
