/** What a test expects: it prints each answer that is not the one that is due, and counts them. */
final class Due {
    interface Call {
        long answer();
    }

    interface Doing {
        void run();
    }

    static final String INDEX = "IndexOutOfBoundsException";
    static final String ARGUMENT = "IllegalArgumentException";
    static final String STATE = "IllegalStateException";

    private int wrong;
    private String about = "";

    /** Ahead of all that is told from now on. */
    void about(String text) {
        about = text;
    }

    void same(String what, long want, Call call) {
        String got = outcome(call);
        if (!got.equals(Long.toString(want))) {
            tell(what + " answered " + got + ", due is " + want);
        }
    }

    void thrown(String what, String want, Call call) {
        String got = outcome(call);
        if (!got.equals(want)) {
            tell(what + " answered " + got + ", due is " + want);
        }
    }

    void thrownBy(String what, String want, Doing doing) {
        thrown(what, want, () -> {
            doing.run();
            return 0;
        });
    }

    void tell(String text) {
        wrong++;
        System.out.println(about + text);
    }

    void close() {
        System.out.println(wrong == 0 ? "all answers are as due" : wrong + " answers are not as due");
        if (wrong != 0) {
            System.exit(1);
        }
    }

    /** The answer as a text, or the exception's name; one that the machine threw is told as such. */
    static String outcome(Call call) {
        try {
            return Long.toString(call.answer());
        } catch (RuntimeException e) {
            StackTraceElement[] trace = e.getStackTrace();
            boolean own = e.getMessage() != null && trace.length > 0
                    && (trace[0].getClassName().startsWith("HarbourPilotline")
                    || trace[0].getClassName().equals("Reference"));
            boolean plain = e.getClass() == IndexOutOfBoundsException.class
                    || e.getClass() == IllegalArgumentException.class
                    || e.getClass() == IllegalStateException.class;
            return (own && plain ? "" : "machine's ") + e.getClass().getSimpleName();
        }
    }
}
