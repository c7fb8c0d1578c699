/** Counts and prints answers that are not as due; a test's main ends with end(). */
final class Check {
    private static final int MOST_PRINTED = 40;
    private int asked;
    private int wrong;
    private String told = "";

    /** The document's sentence that the next answers are due by: it is printed with each wrong one. */
    void sentence(String words) {
        told = "'" + words + "': ";
    }

    void due(String call, long got, long want) {
        asked++;
        if (got == want) {
            return;
        }
        wrong++;
        if (wrong <= MOST_PRINTED) {
            System.out.println(told + call + " answered " + got + ", due is " + want);
        }
    }

    void holds(String what, boolean so) {
        due(what, so ? 1 : 0, 1);
    }

    int wrong() {
        return wrong;
    }

    void end() {
        System.out.println(asked + " answers, " + wrong + " not as due");
        if (wrong != 0) {
            System.exit(1);
        }
    }
}
