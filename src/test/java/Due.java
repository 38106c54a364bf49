/** Compares answers with what is due, prints those that differ, and ends the run. */
final class Due {
    interface Call {
        Object answer();
    }

    private static int wrong = 0;
    private static int asked = 0;
    private static String section = "";

    private Due() {
    }

    /** What a call answers, as a text: its value, or "throws" and the exact class of the exception. */
    static String outcome(Call call) {
        try {
            return String.valueOf(call.answer());
        } catch (RuntimeException e) {
            return "throws " + e.getClass().getSimpleName();
        }
    }

    /** What the answers from here on are about. */
    static void about(String sentence) {
        section = sentence + ": ";
    }

    static void is(String what, Object want, Call call) {
        asked++;
        String got = outcome(call);
        if (!got.equals(String.valueOf(want))) {
            wrong++;
            System.out.println(section + what + " answered " + got + ", due is " + want);
        }
    }

    static void end() {
        System.out.println(wrong == 0 ? asked + " answers are as due" : wrong + " of " + asked + " answers are not as due");
        if (wrong != 0) {
            System.exit(1);
        }
    }
}
