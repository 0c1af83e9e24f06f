/** Counts and prints every answer that is not the one that is due. */
final class Expect {
    private static int wrong = 0;
    private static String sentence = "";

    private Expect() {
    }

    /** What follows tests this sentence of the document: it is printed with each wrong answer. */
    static void about(String words) {
        sentence = "\"" + words + "\": ";
    }

    static void same(String what, Object got, Object want) {
        if (!got.equals(want)) {
            wrong++;
            System.out.println(sentence + what + ": answered " + got + ", due is " + want);
        }
    }

    /** The call must throw just this class: a class below it counts as wrong too. */
    static void fails(String what, Class<? extends RuntimeException> kind, Runnable call) {
        same(what, outcome(call), kind.getName());
    }

    private static String outcome(Runnable call) {
        try {
            call.run();
            return "no exception";
        } catch (RuntimeException e) {
            return e.getClass().getName();
        }
    }

    static boolean anyWrong() {
        return wrong != 0;
    }

    static void end() {
        System.out.println(wrong == 0 ? "all answers are as due" : wrong + " answers are not as due");
        if (wrong != 0) {
            System.exit(1);
        }
    }
}
