/** Counts what is not as due; each test is a class with a main method that ends by end(). */
final class Checks {
    private int wrong = 0;
    private int done = 0;
    private String promise = "";

    interface Setup {
        Lostroom make();
    }

    interface Call {
        void on(Lostroom room);
    }

    interface CallWith {
        void on(Lostroom room, int number);
    }

    /** Names the promise or the sentence that the checks after it belong to. */
    void promise(String name) {
        promise = name;
    }

    void is(String what, long want, long got) {
        done++;
        if (want != got) report(what + ": due is " + want + ", got " + got);
    }

    void is(String what, boolean want, boolean got) {
        is(what, want ? 1 : 0, got ? 1 : 0);
    }

    void isText(String what, String want, String got) {
        done++;
        if (!want.equals(got)) report(what + ":\n  due is " + want + "\n  got    " + got);
    }

    void bounds(String what, Setup setup, Call call) {
        throwing(what, IndexOutOfBoundsException.class, setup, call);
    }

    void argument(String what, Setup setup, Call call) {
        throwing(what, IllegalArgumentException.class, setup, call);
    }

    void state(String what, Setup setup, Call call) {
        throwing(what, IllegalStateException.class, setup, call);
    }

    /** A call that is not refused; what it answers is told elsewhere. */
    void taken(String what, Setup setup, Call call) {
        done++;
        Class<?> got = thrownBy(setup.make(), call);
        if (got != null) report(what + " is to be taken, but throws " + got.getName());
    }

    /** The numbers from least to most are there: the last ones on either side, and the first that are refused. */
    void boundsFrom(String what, int least, int most, Setup setup, CallWith call) {
        range(what, IndexOutOfBoundsException.class, least, most, setup, call);
    }

    /** The numbers from least to most are in the range of an argument. */
    void argumentFrom(String what, int least, int most, Setup setup, CallWith call) {
        range(what, IllegalArgumentException.class, least, most, setup, call);
    }

    /** Sets of the words 0 to 23 are taken, others are not. */
    void words(String what, Setup setup, CallWith call) {
        int[] taken = {0, 1, 1 << 23, 0xFFFFFF};
        int[] refused = {-1, Integer.MIN_VALUE, 1 << 24, 1 << 24 | 1, 1 << 30, Integer.MAX_VALUE, ~0xFFFFFF};
        for (int set : taken) taken(what + " " + set, setup, room -> call.on(room, set));
        for (int set : refused) argument(what + " " + set, setup, room -> call.on(room, set));
    }

    private void range(String what, Class<?> refusal, int least, int most, Setup setup, CallWith call) {
        int[] taken = {least, most};
        int[] refused = {least - 1, most + 1, Integer.MIN_VALUE, Integer.MAX_VALUE};
        for (int number : taken) taken(what + " " + number, setup, room -> call.on(room, number));
        for (int number : refused) throwing(what + " " + number, refusal, setup, room -> call.on(room, number));
    }

    /**
     * The exception's class has to be the very one, since the machine's own exceptions are below it. What the call left
     * is held against another object made alike, so that no object is asked more than the 512 calls it is good for.
     */
    private void throwing(String what, Class<?> want, Setup setup, Call call) {
        for (int depth = 0; depth < Depths.COUNT; depth++) {
            Lostroom room = setup.make();
            Class<?> got = thrownBy(room, call);
            if (depth == 0) {
                done++;
                String name = got == null ? "nothing" : got.getName();
                if (got != want) report(what + ": due is " + want.getName() + ", got " + name);
            }
            isText(what + " changes nothing", Depths.of(setup.make(), depth), Depths.of(room, depth));
        }
    }

    private static Class<?> thrownBy(Lostroom room, Call call) {
        try {
            call.on(room);
            return null;
        } catch (RuntimeException e) {
            return e.getClass();
        }
    }

    private void report(String text) {
        wrong++;
        System.out.println(promise + ": " + text);
    }

    void end() {
        System.out.println(done + " checks, " + wrong + " wrong");
        if (wrong != 0) System.exit(1);
    }
}
