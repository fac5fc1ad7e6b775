/** Counts the answers that are not as due, and prints them. */
final class Check {
    interface Call {
        Object answer();
    }

    private static int wrong = 0;
    private static int asked = 0;
    private static String sentence = "";

    private Check() {
    }

    /** What a call answers, or the name of the exception that it throws. */
    static String outcome(Call call) {
        try {
            return String.valueOf(call.answer());
        } catch (RuntimeException e) {
            return "throws." + e.getClass().getSimpleName();
        }
    }

    static void due(String told, Object want, Call call) {
        asked++;
        String got = outcome(call);
        if (!got.equals(String.valueOf(want))) {
            wrong++;
            System.out.println(told + " answered " + got + ", due is " + want
                + (sentence.isEmpty() ? "" : " [" + sentence + "]"));
        }
    }

    static void outside(String told, Call call) {
        due(told, "throws.IndexOutOfBoundsException", call);
    }

    static void badArgument(String told, Call call) {
        due(told, "throws.IllegalArgumentException", call);
    }

    static void badState(String told, Call call) {
        due(told, "throws.IllegalStateException", call);
    }

    static int asked() {
        return asked;
    }

    /** The sentence of the document that the answers from here on are of; none, if it is empty. */
    static void under(String told) {
        sentence = told;
    }

    static void end() {
        System.out.println(asked + " answers, " + wrong + " not as due");
        if (wrong != 0 || asked == 0) {
            System.exit(1);
        }
    }
}
