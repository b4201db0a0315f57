/** Counts the answers that are not as due, and prints each of them. */
final class Check {
    private final String name;
    private int wrong;

    Check(String name) {
        this.name = name;
    }

    void due(String call, long got, long want) {
        if (got != want) {
            tell(call, Long.toString(got), Long.toString(want));
        }
    }

    void dueDouble(String call, double got, double want) {
        if (Double.compare(got, want) != 0) {
            tell(call, Double.toString(got), Double.toString(want));
        }
    }

    void dueFloat(String call, float got, float want) {
        if (Float.compare(got, want) != 0) {
            tell(call, Float.toString(got), Float.toString(want));
        }
    }

    void dueText(String what, String got, String want) {
        if (!got.equals(want)) {
            tell(what, got, want);
        }
    }

    boolean anyWrong() {
        return wrong != 0;
    }

    void end() {
        System.out.println(name + ": " + (wrong == 0 ? "all answers are as due" : wrong + " answers are not as due"));
        if (wrong != 0) {
            System.exit(1);
        }
    }

    private void tell(String call, String got, String want) {
        wrong++;
        System.out.println(name + ": " + call + " answered " + got + ", due is " + want);
    }
}
