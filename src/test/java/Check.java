/** Counts the answers that are not as due and ends the test with exit code 1 if there was one. */
final class Check {
    private int asked;
    private int wrong;

    void same(String call, long due, long got) {
        asked++;
        if (due != got) {
            tell(call + " answered " + got + ", due is " + due);
        }
    }

    void same(String call, boolean due, boolean got) {
        same(call, due ? 1 : 0, got ? 1 : 0);
    }

    void same(String call, String due, String got) {
        asked++;
        if (!due.equals(got)) {
            tell(call + " answered\n" + got + "\ndue is\n" + due);
        }
    }

    void indexOut(String call, Runnable body) {
        throwing(call, IndexOutOfBoundsException.class, body);
    }

    void badArgument(String call, Runnable body) {
        throwing(call, IllegalArgumentException.class, body);
    }

    void badState(String call, Runnable body) {
        throwing(call, IllegalStateException.class, body);
    }

    /** Exactly this class: what the machine throws by itself is of a class below it. */
    void throwing(String call, Class<?> due, Runnable body) {
        asked++;
        String got = "nothing";
        try {
            body.run();
        } catch (RuntimeException e) {
            if (e.getClass() == due) {
                return;
            }
            got = e.getClass().getSimpleName();
        }
        tell(call + " threw " + got + ", due is " + due.getSimpleName());
    }

    private void tell(String what) {
        wrong++;
        if (wrong <= 20) {
            System.out.println(what);
        }
    }

    void end() {
        System.out.println(asked + " answers, " + wrong + " not as due");
        if (wrong != 0 || asked == 0) {
            System.exit(1);
        }
    }
}
