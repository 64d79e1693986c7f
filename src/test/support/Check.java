/** Counts and prints the answers of a test that are not due; the line in the test's file names the call. */
final class Check {
    interface Call {
        Object make();
    }

    private int made = 0;
    private int wrong = 0;

    void due(Object want, Call call) {
        compare(String.valueOf(want), outcomeOf(call));
    }

    void isThrown(Class<? extends RuntimeException> want, Call call) {
        compare(thrownText(want), outcomeOf(call));
    }

    /** Compares two outcomes of a call that is described by a text. */
    void same(String what, String want, String got) {
        made++;
        if (!want.equals(got)) {
            wrong++;
            System.out.println(what + " answered " + got + ", due is " + want);
        }
    }

    boolean isAllDue() {
        return wrong == 0;
    }

    void end() {
        if (wrong == 0) {
            System.out.println("all " + made + " answers are as due");
        } else {
            System.out.println(wrong + " of " + made + " answers are not as due");
            System.exit(1);
        }
    }

    /** The answer as a text, or the exact class of what is thrown. */
    static String outcomeOf(Call call) {
        try {
            return String.valueOf(call.make());
        } catch (RuntimeException e) {
            return thrownText(e.getClass());
        }
    }

    /** The lines of the test that lead to here, the innermost first, because a helper's line alone tells little. */
    static String placeInTest() {
        StringBuilder place = new StringBuilder();
        for (StackTraceElement step : new Throwable().getStackTrace()) {
            String file = step.getFileName();
            if (file != null && file.endsWith("Test.java") && !step.getMethodName().equals("main")) {
                place.append(place.length() == 0 ? file : " of").append(':').append(step.getLineNumber());
            }
        }
        return place.toString();
    }

    private static String thrownText(Class<?> thrown) {
        return "throws." + thrown.getName();
    }

    private void compare(String want, String got) {
        same(placeInTest(), want, got);
    }
}
