/** Compares answers with those that are due, tells each that differs and keeps their number. */
final class Checks {
    interface Call {
        void run();
    }

    private final String title;
    private String sentence = "";
    private int made;
    private int wrong;

    Checks(String title) {
        this.title = title;
    }

    /** What follows is asked by this sentence of the document: each fault is told with it. */
    void begin(String words) {
        sentence = " [" + words + "]";
    }

    void due(String what, long want, long got) {
        made++;
        if (got != want) {
            tell(what + " answered " + got + ", due is " + want);
        }
    }

    void dueText(String what, String want, String got) {
        made++;
        if (!want.equals(got)) {
            tell(what + " is " + got + ", due is " + want);
        }
    }

    void isTrue(String what, boolean holds) {
        made++;
        if (!holds) {
            tell(what + " does not hold");
        }
    }

    void illegalArgument(String what, Call call) {
        dueText(what, "IllegalArgumentException", thrownBy(call));
    }

    void illegalState(String what, Call call) {
        dueText(what, "IllegalStateException", thrownBy(call));
    }

    void outOfBounds(String what, Call call) {
        dueText(what, "IndexOutOfBoundsException", thrownBy(call));
    }

    int wrong() {
        return wrong;
    }

    void end() {
        System.out.println(title + ": " + made + " checks, " + wrong + " wrong");
        if (wrong > 0) {
            System.exit(1);
        }
    }

    private void tell(String fault) {
        wrong++;
        System.out.println(title + sentence + ": " + fault);
    }

    private static String thrownBy(Call call) {
        try {
            call.run();
            return "nothing";
        } catch (RuntimeException e) {
            return e.getClass().getSimpleName();
        }
    }
}
