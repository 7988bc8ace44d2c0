/** Counts and prints the answers that are not as due; the end of a test is exit code 1 if there was one. */
final class Check {
    private static final int MOST_PRINTED = 40;
    private static final int MOST_PRINTED_OF_A_SENTENCE = 4;
    private String sentence = "";
    private int printable = MOST_PRINTED;
    private int asked;
    private int wrong;

    void same(String what, long got, long due) {
        asked++;
        if (got != due) {
            fault(what + " answered " + got + ", due is " + due);
        }
    }

    void fault(String text) {
        wrong++;
        if (printable > 0) {
            printable--;
            System.out.println(sentence + text);
        }
    }

    /** Asks that the call throws just this class of exception. */
    void thrown(String what, Class<? extends RuntimeException> due, Runnable call) {
        asked++;
        try {
            call.run();
        } catch (RuntimeException e) {
            if (e.getClass() != due) {
                fault(what + " threw " + e + ", due is " + due);
            }
            return;
        }
        fault(what + " threw nothing, due is " + due);
    }

    /** Asks one sentence of the document: what is wrong is told with its words, and the next one is asked all the same. */
    void sentence(String words, Runnable questions) {
        sentence = "\"" + words + "\": ";
        printable = MOST_PRINTED_OF_A_SENTENCE;
        int before = asked;
        try {
            questions.run();
        } catch (RuntimeException e) {
            fault("threw " + e);
        }
        if (asked == before) {
            fault("nothing was asked");
        }
    }

    void end() {
        System.out.println(wrong == 0 ? asked + " answers are as due" : wrong + " answers are not as due");
        if (wrong != 0) {
            System.exit(1);
        }
    }
}
