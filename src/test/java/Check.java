import java.util.Objects;

/** Compares answers with what is due, and counts those that are not. */
final class Check {
    interface Call {
        Object answer();
    }

    private static final int MOST_SHOWN = 40;

    private String test = "";
    private int checks = 0;
    private int wrong = 0;

    void begin(String name) {
        test = name;
    }

    void equal(Object got, Object due) {
        checks++;
        if (!Objects.equals(got, due)) {
            tellWrong("answered " + got + ", due is " + due);
        }
    }

    /** The call must throw just this class, by a throw statement of the program's own. */
    void fails(Class<? extends RuntimeException> due, Call call) {
        checks++;
        String got = outcome(call);
        if (!got.equals(due.getName())) {
            tellWrong("gave " + got + ", due is " + due.getName());
        }
    }

    /** The answer as a text, or the name of what was thrown, marked if the machine threw it. */
    static String outcome(Call call) {
        try {
            return String.valueOf(call.answer());
        } catch (RuntimeException e) {
            StackTraceElement[] trace = e.getStackTrace();
            boolean isOwn = trace.length > 0 && trace[0].getClassName().equals("CreditTransfer")
                    && e.getMessage() == null;
            return isOwn ? e.getClass().getName() : "by the machine: " + e;
        }
    }

    void tellWrong(String what) {
        wrong++;
        if (wrong <= MOST_SHOWN) {
            System.out.println(test + " (" + where() + "): " + what);
        }
    }

    /** The line of the test itself, not of what the tests share. */
    private static String where() {
        for (StackTraceElement step : new Throwable().getStackTrace()) {
            String file = step.getFileName();
            if (!"Check.java".equals(file) && !"DeskTests.java".equals(file)) {
                return file + ":" + step.getLineNumber();
            }
        }
        return "";
    }

    void finish() {
        System.out.println(checks + " own checks, " + wrong + " wrong");
        if (wrong != 0 || checks == 0) {
            System.exit(1);
        }
    }
}
