/** Counts what is not as due; each test is a class with a main method that ends by end(). */
final class Checks {
    private int wrong = 0;
    private int done = 0;
    private String promise = "";

    interface Setup {
        Lostroom make();
    }

    interface Call {
        void on(Lostroom room);
    }

    /** Names the promise that the checks after it belong to. */
    void promise(String name) {
        promise = name;
    }

    void is(String what, long want, long got) {
        done++;
        if (want != got) report(what + ": due is " + want + ", got " + got);
    }

    void is(String what, boolean want, boolean got) {
        is(what, want ? 1 : 0, got ? 1 : 0);
    }

    void isText(String what, String want, String got) {
        done++;
        if (!want.equals(got)) report(what + ":\n  due is " + want + "\n  got    " + got);
    }

    void bounds(String what, Setup setup, Call call) {
        throwing(what, IndexOutOfBoundsException.class, setup, call);
    }

    void argument(String what, Setup setup, Call call) {
        throwing(what, IllegalArgumentException.class, setup, call);
    }

    void state(String what, Setup setup, Call call) {
        throwing(what, IllegalStateException.class, setup, call);
    }

    /**
     * The exception's class has to be the very one, since the machine's own exceptions are below it. What the call left
     * is held against another object made alike, so that no object is asked more than the 512 calls it is good for.
     */
    private void throwing(String what, Class<?> want, Setup setup, Call call) {
        Lostroom room = setup.make();
        Class<?> got = null;
        try {
            call.on(room);
        } catch (RuntimeException e) {
            got = e.getClass();
        }
        done++;
        if (got != want) report(what + ": due is " + want.getName() + ", got " + (got == null ? "nothing" : got.getName()));
        isText(what + " changes nothing", Picture.of(setup.make()), Picture.of(room));
    }

    private void report(String text) {
        wrong++;
        System.out.println(promise + ": " + text);
    }

    void end() {
        System.out.println(done + " checks, " + wrong + " wrong");
        if (wrong != 0) System.exit(1);
    }
}
