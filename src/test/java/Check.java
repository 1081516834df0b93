/** Compares answers with those that are due, and ends a test. */
final class Check {
    /** A call whose answer is a whole number. */
    interface Call {
        long answer();
    }

    private final String test;
    private int checked = 0;
    private int wrong = 0;

    Check(String test) {
        this.test = test;
    }

    void due(String call, long got, long want) {
        checked++;
        if (got != want) {
            wrong++;
            System.out.println(test + ": " + call + " answered " + got + ", due is " + want);
        }
    }

    void dueDouble(String call, double got, double want) {
        checked++;
        if (Double.doubleToLongBits(got) != Double.doubleToLongBits(want)) {
            wrong++;
            System.out.println(test + ": " + call + " answered " + got + ", due is " + want);
        }
    }

    void isTrue(String what, boolean holds) {
        checked++;
        if (!holds) {
            wrong++;
            System.out.println(test + ": not so: " + what);
        }
    }

    /** The very class of the exception is due, not one below it. */
    void dueThrow(String call, Class<? extends RuntimeException> due, Call asked) {
        checked++;
        String got;
        try {
            got = "answered " + asked.answer();
        } catch (RuntimeException e) {
            if (e.getClass() == due) {
                return;
            }
            got = "threw " + e;
        }
        wrong++;
        System.out.println(test + ": " + call + " " + got + ", due is a " + due.getSimpleName());
    }

    void badArgument(String call, Call asked) {
        dueThrow(call, IllegalArgumentException.class, asked);
    }

    void badState(String call, Call asked) {
        dueThrow(call, IllegalStateException.class, asked);
    }

    void badIndex(String call, Call asked) {
        dueThrow(call, IndexOutOfBoundsException.class, asked);
    }

    void end() {
        System.out.println(test + ": " + checked + " checks, " + wrong + " wrong");
        if (wrong != 0 || checked == 0) {
            System.exit(1);
        }
    }
}
