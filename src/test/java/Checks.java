/** Counts the answers that are not as due, and ends the test with exit code 1 if there was one. */
final class Checks {
    interface Call {
        long answer();
    }

    private int done;
    private int wrong;

    void due(String what, long got, long want) {
        done++;
        if (got != want) {
            wrong++;
            System.out.println(what + " answered " + got + ", due is " + want);
        }
    }

    void argument(String what, Call call) {
        refused(what, call, IllegalArgumentException.class);
    }

    void state(String what, Call call) {
        refused(what, call, IllegalStateException.class);
    }

    private void refused(String what, Call call, Class<?> due) {
        done++;
        String got;
        try {
            got = "answered " + call.answer();
        } catch (RuntimeException e) {
            if (e.getClass() == due) {
                return;
            }
            got = "threw " + e.getClass().getSimpleName();
        }
        wrong++;
        System.out.println(what + " " + got + ", due is " + due.getSimpleName());
    }

    void finish() {
        System.out.println(done + " checks, " + wrong + " wrong");
        if (wrong != 0 || done == 0) {
            System.exit(1);
        }
    }
}
