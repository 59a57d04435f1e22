/** Compares answers with those that are due, prints each that differs, and ends the test. */
final class Due {
    interface Call {
        Object answer();
    }

    private static int wrong;
    private static String sentence = "";

    private Due() {
    }

    /** The words of the document that the answers from here on are due by. */
    static void by(String words) {
        sentence = words;
    }

    static void is(String what, long got, long want) {
        is(what, Long.toString(got), Long.toString(want));
    }

    static void is(String what, String got, String want) {
        if (!got.equals(want)) {
            wrong++;
            System.out.println(what + " answered " + got + ", due is " + want + (sentence.isEmpty() ? "" : ", by \"" + sentence + "\""));
        }
    }

    /** The call throws an exception of just this class. */
    static void isThrown(String what, Call call, Class<? extends RuntimeException> want) {
        String got;
        try {
            got = String.valueOf(call.answer());
        } catch (RuntimeException e) {
            got = e.getClass().getSimpleName();
        }
        is(what, got, want.getSimpleName());
    }

    static void end() {
        System.out.println(wrong == 0 ? "all answers are as due" : wrong + " answers are not as due");
        if (wrong != 0) {
            System.exit(1);
        }
    }
}
