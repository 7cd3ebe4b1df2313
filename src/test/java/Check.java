/** Counts and prints what is not as due. */
final class Check {
    private static int wrong = 0;
    private static String sentence = "";

    private Check() {
    }

    interface Call {
        long answer();
    }

    interface Action {
        void run();
    }

    /** A test of words of the document; they are told with each answer that is not as due. */
    static void sentence(String words, Action test) {
        sentence = "'" + words + "': ";
        try {
            test.run();
        } catch (RuntimeException e) {
            tell("a call that is no refusal threw " + e);
        }
        sentence = "";
    }

    private static void tell(String what) {
        wrong++;
        System.out.println(sentence + what);
    }

    static void due(String what, long got, long want) {
        if (got != want) {
            tell(what + " answered " + got + ", due is " + want);
        }
    }

    static void due(String what, String got, String want) {
        if (!got.equals(want)) {
            tell(what + " answered " + got + ", due is " + want);
        }
    }

    static void refused(String what, Class<?> due, Action call) {
        due(what, outcome(call), "throws." + due.getSimpleName());
    }

    static String outcome(Call call) {
        try {
            return Long.toString(call.answer());
        } catch (RuntimeException e) {
            return "throws." + e.getClass().getSimpleName();
        }
    }

    static String outcome(Action call) {
        try {
            call.run();
            return "done";
        } catch (RuntimeException e) {
            return "throws." + e.getClass().getSimpleName();
        }
    }

    static void finish() {
        if (wrong != 0) {
            System.out.println(wrong + " answers are not as due");
            System.exit(1);
        }
    }
}
