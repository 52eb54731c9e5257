import java.util.List;

/** Counts what is not as due, tells it, and ends the test with exit code 1 if there was any. */
final class Check {
    interface Call {
        long answer();
    }

    interface Deed {
        void run();
    }

    interface Telling {
        void tell(DrillField field);
    }

    private final String test;
    private String sentence = "";
    private int callsAtSentence = -1;
    private int calls;
    private int wrong;

    Check(String test) {
        this.test = test;
    }

    /** What is checked from here on belongs to a sentence of the document: "Promise 2: dots: 2 to 10". */
    void sentence(String sentence) {
        endSentence();
        this.sentence = ": " + sentence;
        callsAtSentence = calls;
    }

    private void endSentence() {
        if (callsAtSentence == calls) {
            wrong("nothing was checked");
        }
    }

    private void wrong(String what) {
        wrong++;
        System.out.println(test + sentence + ": " + what);
    }

    void due(String what, long got, long want) {
        calls++;
        if (got != want) {
            wrong(what + " answered " + got + ", due is " + want);
        }
    }

    void holds(String what, boolean is) {
        due(what, is ? 1 : 0, 1);
    }

    void index(String what, Deed deed) {
        throwing(what, IndexOutOfBoundsException.class, deed);
    }

    void argument(String what, Deed deed) {
        throwing(what, IllegalArgumentException.class, deed);
    }

    void state(String what, Deed deed) {
        throwing(what, IllegalStateException.class, deed);
    }

    private void throwing(String what, Class<?> want, Deed deed) {
        calls++;
        Class<?> got = thrownBy(deed);
        if (got != want) {
            wrong(what + " threw " + got + ", due is " + want);
        }
    }

    void refusesIndex(String what, Telling before, Telling call) {
        refuses(what, IndexOutOfBoundsException.class, before, call);
    }

    void refusesArgument(String what, Telling before, Telling call) {
        refuses(what, IllegalArgumentException.class, before, call);
    }

    void refusesState(String what, Telling before, Telling call) {
        refuses(what, IllegalStateException.class, before, call);
    }

    /** The call throws as due, and the object then answers all as its twin does,
            who was told the same but for the call. */
    private void refuses(String what, Class<?> want, Telling before, Telling call) {
        DrillField field = told(before);
        throwing(what, want, () -> call.tell(field));
        List<String> got = Sight.of(field);
        List<String> due = Sight.of(told(before));
        calls++;
        for (int line = 0; line < Math.min(got.size(), due.size()); line++) {
            if (!got.get(line).equals(due.get(line))) {
                wrong("after " + what + " " + got.get(line) + ", due is that " + due.get(line));
                return;
            }
        }
        if (got.size() != due.size()) {
            wrong("after " + what + " there are as many answers as " + got.size() + ", due is " + due.size());
        }
    }

    static DrillField told(Telling telling) {
        DrillField field = new DrillField();
        telling.tell(field);
        return field;
    }

    static Class<?> thrownBy(Deed deed) {
        try {
            deed.run();
            return null;
        } catch (RuntimeException thrown) {
            return thrown.getClass();
        }
    }

    void end() {
        endSentence();
        System.out.println(test + ": " + calls + " checks, " + wrong + " wrong");
        if (wrong > 0 || calls == 0) {
            System.exit(1);
        }
    }
}
