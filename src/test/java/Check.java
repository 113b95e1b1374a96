/** Compares answers with those that are due, and ends a test's run with its result. */
final class Check {
    interface Call {
        long answer();
    }

    private final String test;
    private int right = 0;
    private int wrong = 0;

    Check(String test) {
        this.test = test;
    }

    static Call of(BooleanCall call) {
        return () -> call.answer() ? 1 : 0;
    }

    interface BooleanCall {
        boolean answer();
    }

    /** What the call answers: its number, or the name of the exception that it throws. */
    static String outcome(Call call) {
        try {
            return Long.toString(call.answer());
        } catch (RuntimeException e) {
            return e.getClass().getSimpleName();
        }
    }

    void answers(String call, long due, Call got) {
        same(call, Long.toString(due), outcome(got));
    }

    void is(String call, boolean due, BooleanCall got) {
        answers(call, due ? 1 : 0, of(got));
    }

    /** The call must throw just this exception and change nothing of the object. */
    void refuses(String call, String exception, ParkingRules x, Call got) {
        long before = x.fingerprint();
        same(call, exception, outcome(got));
        same(call + " changes nothing", Long.toString(before), Long.toString(x.fingerprint()));
    }

    void same(String what, String due, String got) {
        if (due.equals(got)) {
            right++;
        } else {
            wrong++;
            if (wrong <= 40) {
                System.out.println(test + ": " + what + " answered " + got + ", due is " + due);
            }
        }
    }

    int wrong() {
        return wrong;
    }

    void end() {
        System.out.println(test + ": " + right + " answers right, " + wrong + " wrong");
        if (wrong != 0 || right == 0) {
            System.exit(1);
        }
    }
}
