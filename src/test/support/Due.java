/** Compares answers with those that are due, tells the wrong ones, and ends with 1 if there were any. */
final class Due {
    private static int wrong = 0;

    interface Call {
        int answer();
    }

    private Due() {
    }

    static void number(String call, int got, int want) {
        text(call, String.valueOf(got), String.valueOf(want));
    }

    static void thrown(String call, String want, Call made) {
        text(call, told(made), "throws." + want);
    }

    static void text(String call, String got, String want) {
        if (!got.equals(want)) {
            wrong++;
            System.out.println(call + " answered " + got + ", due is " + want);
        }
    }

    /** The answer as a text, or throws. with the very class of what was thrown. */
    static String told(Call made) {
        try {
            return String.valueOf(made.answer());
        } catch (RuntimeException thrown) {
            return "throws." + thrown.getClass().getSimpleName();
        }
    }

    static int wrongs() {
        return wrong;
    }

    static void end() {
        System.out.println(wrong == 0 ? "all answers are as due" : wrong + " answers are not as due");
        if (wrong != 0) {
            System.exit(1);
        }
    }
}
