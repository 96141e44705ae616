/** Compares answers with those that are due, prints each that is not, and ends the test. */
final class Check {
    private static final int SHOWN = 40;
    private final String test;
    private int made;
    private int wrong;

    Check(String test) {
        this.test = test;
    }

    void whole(String call, long got, long want) {
        judge(got == want, call, Long.toString(got), Long.toString(want));
    }

    /** By the bits, so that -0.0 is told from 0.0. */
    void real(String call, double got, double want) {
        judge(Double.doubleToRawLongBits(got) == Double.doubleToRawLongBits(want),
                call, Double.toString(got), Double.toString(want));
    }

    void text(String call, String got, String want) {
        judge(want.equals(got), call, got, want);
    }

    /** Of doubles by the bits, as equals has it. */
    void same(String call, Object got, Object want) {
        judge(want.equals(got), call, String.valueOf(got), String.valueOf(want));
    }

    void throwsOut(String call, Runnable run) {
        refuses(call, run, IndexOutOfBoundsException.class);
    }

    void throwsWrong(String call, Runnable run) {
        refuses(call, run, IllegalArgumentException.class);
    }

    void throwsState(String call, Runnable run) {
        refuses(call, run, IllegalStateException.class);
    }

    private void refuses(String call, Runnable run, Class<?> want) {
        String got = "nothing";
        try {
            run.run();
        } catch (RuntimeException e) {
            got = e.getClass().getName();
        }
        judge(got.equals(want.getName()), call + " throws", got, want.getName());
    }

    private void judge(boolean right, String call, String got, String want) {
        made++;
        if (!right) {
            wrong++;
            if (wrong <= SHOWN) {
                System.out.println(test + ": " + call + " answered " + got + ", due is " + want);
            }
        }
    }

    void end() {
        System.out.println(test + ": " + made + " checks, " + wrong + " wrong");
        if (wrong != 0 || made == 0) {
            System.exit(1);
        }
    }
}
