/** Counts what is not as due, tells it, and ends the test with exit code 1 if there was any. */
final class Check {
    interface Call {
        long answer();
    }

    interface Deed {
        void run();
    }

    private final String test;
    private int calls;
    private int wrong;

    Check(String test) {
        this.test = test;
    }

    void due(String what, long got, long want) {
        calls++;
        if (got != want) {
            wrong++;
            System.out.println(test + ": " + what + " answered " + got + ", due is " + want);
        }
    }

    void holds(String what, boolean is) {
        due(what, is ? 1 : 0, 1);
    }

    void index(String what, Deed deed) {
        throwing(what, IndexOutOfBoundsException.class, deed);
    }

    void argument(String what, Deed deed) {
        throwing(what, IllegalArgumentException.class, deed);
    }

    void state(String what, Deed deed) {
        throwing(what, IllegalStateException.class, deed);
    }

    private void throwing(String what, Class<?> want, Deed deed) {
        calls++;
        Class<?> got = thrownBy(deed);
        if (got != want) {
            wrong++;
            System.out.println(test + ": " + what + " threw " + got + ", due is " + want);
        }
    }

    static Class<?> thrownBy(Deed deed) {
        try {
            deed.run();
            return null;
        } catch (RuntimeException thrown) {
            return thrown.getClass();
        }
    }

    void end() {
        System.out.println(test + ": " + calls + " checks, " + wrong + " wrong");
        if (wrong > 0 || calls == 0) {
            System.exit(1);
        }
    }
}
