/** Compares answers with those that are due, prints the ones that differ, and ends the test. */
final class Check {
    interface Call {
        long answer();
    }

    /** The longest test needs some twenty seconds. */
    private static final int MOST_SECONDS = 300;

    private int wrong = 0;
    private int compared = 0;

    Check() {
        limitTime();
    }

    /** A loop without end makes the test fail, as a wrong answer does. */
    static void limitTime() {
        Thread limit = new Thread(() -> {
            try {
                Thread.sleep(1000L * MOST_SECONDS);
            } catch (InterruptedException e) {
                return;
            }
            System.out.println("the test did not end within " + MOST_SECONDS + " seconds");
            Runtime.getRuntime().halt(1);
        });
        limit.setDaemon(true);
        limit.start();
    }

    /** A boolean answer, as a number. */
    static long bit(boolean answer) {
        return answer ? 1 : 0;
    }

    void due(String call, long got, long want) {
        due(call, Long.toString(got), Long.toString(want));
    }

    void due(String call, String got, String want) {
        compared++;
        if (!got.equals(want)) {
            wrong++;
            System.out.println(call + " answered " + got + ", due is " + want);
        }
    }

    /** The call must answer; if it throws, that is told as a wrong answer. */
    void due(String call, Call made, long want) {
        try {
            due(call, made.answer(), want);
        } catch (RuntimeException e) {
            compared++;
            wrong++;
            System.out.println(call + " threw " + e.getClass().getName() + ", due is " + want);
        }
    }

    /** The call must throw exactly that class, no class below it. */
    void dueThrow(String call, Class<? extends RuntimeException> want, Call made) {
        compared++;
        String got;
        try {
            got = "answered " + made.answer();
        } catch (RuntimeException e) {
            got = e.getClass() == want ? null : "threw " + e.getClass().getName();
        }
        if (got != null) {
            wrong++;
            System.out.println(call + " " + got + ", due is " + want.getName());
        }
    }

    void dueArgument(String call, Call made) {
        dueThrow(call, IllegalArgumentException.class, made);
    }

    void dueIndex(String call, Call made) {
        dueThrow(call, IndexOutOfBoundsException.class, made);
    }

    void dueState(String call, Call made) {
        dueThrow(call, IllegalStateException.class, made);
    }

    void end() {
        System.out.println(compared + " answers compared, " + wrong + " not as due");
        if (wrong != 0 || compared == 0) {
            System.exit(1);
        }
    }
}
