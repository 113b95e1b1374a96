/** Compares answers with those that are due, and ends a test's run with its result. */
final class Check {
    interface Call {
        long answer();
    }

    private final String test;
    private int right = 0;
    private int wrong = 0;

    Check(String test) {
        this.test = test;
    }

    static Call of(BooleanCall call) {
        return () -> call.answer() ? 1 : 0;
    }

    interface BooleanCall {
        boolean answer();
    }

    /** What the call answers: its number, or the name of the exception that it throws. */
    static String outcome(Call call) {
        try {
            return Long.toString(call.answer());
        } catch (RuntimeException e) {
            return e.getClass().getSimpleName();
        }
    }

    void answers(String call, long due, Call got) {
        same(call, Long.toString(due), outcome(got));
    }

    void is(String call, boolean due, BooleanCall got) {
        answers(call, due ? 1 : 0, of(got));
    }

    /** The call must throw just this exception and change nothing of the object. */
    void refuses(String call, String exception, ParkingRules x, Call got) {
        long before = x.fingerprint();
        same(call, exception, outcome(got));
        same(call + " changes nothing", Long.toString(before), Long.toString(x.fingerprint()));
    }

    void same(String what, String due, String got) {
        if (due.equals(got)) {
            right++;
        } else {
            wrong++;
            if (wrong <= 40) {
                int from = differsFrom(due, got);
                System.out.println(test + ": " + what + " answered " + part(got, from)
                    + ", due is " + part(due, from));
            }
        }
    }

    private static int differsFrom(String due, String got) {
        int at = 0;
        while (at < due.length() && at < got.length() && due.charAt(at) == got.charAt(at)) {
            at++;
        }
        return Math.max(0, at - 30);
    }

    /** Long answers are cut: what stands before the first difference says nothing. */
    private static String part(String answer, int from) {
        if (answer.length() <= 80) {
            return answer;
        }
        return (from > 0 ? ".." : "") + answer.substring(from, Math.min(answer.length(), from + 80));
    }

    int wrong() {
        return wrong;
    }

    void end() {
        System.out.println(test + ": " + right + " answers right, " + wrong + " wrong");
        if (wrong != 0 || right == 0) {
            System.exit(1);
        }
    }
}
