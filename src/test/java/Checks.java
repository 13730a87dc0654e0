/** Counts the answers that are not as due, and ends the test with exit code 1 if there was one. */
final class Checks {
    interface Call {
        long answer();
    }

    interface Doing {
        void done();
    }

    private int done;
    private int wrong;
    private String about = "";

    /** Stands before whatever is wrong from now on. */
    void about(String text) {
        about = text;
    }

    int done() {
        return done;
    }

    void due(String what, long got, long want) {
        done++;
        if (got != want) {
            tellWrong(what + " answered " + got + ", due is " + want);
        }
    }

    void so(String what, boolean isSo) {
        due(what, isSo ? 1 : 0, 1);
    }

    void argument(String what, Call call) {
        refused(what, call, IllegalArgumentException.class);
    }

    void state(String what, Call call) {
        refused(what, call, IllegalStateException.class);
    }

    /** For calls that answer nothing. */
    void argumentOf(String what, Doing call) {
        argument(what, () -> answerOf(call));
    }

    void stateOf(String what, Doing call) {
        state(what, () -> answerOf(call));
    }

    private static long answerOf(Doing call) {
        call.done();
        return 0;
    }

    private void refused(String what, Call call, Class<?> due) {
        done++;
        String got;
        try {
            got = "answered " + call.answer();
        } catch (RuntimeException e) {
            if (e.getClass() == due) {
                return;
            }
            got = "threw " + e.getClass().getSimpleName();
        }
        tellWrong(what + " " + got + ", due is " + due.getSimpleName());
    }

    void tellWrong(String text) {
        wrong++;
        System.out.println(about + text);
    }

    void finish() {
        System.out.println(done + " checks, " + wrong + " wrong");
        if (wrong != 0 || done == 0) {
            System.exit(1);
        }
    }
}
