/** Counts and prints the answers that are not the ones that are due. */
final class Checks {
    private String sentence = "";
    private int made = 0;
    private int wrong = 0;

    /** What is looked at from here on shows whether this sentence of the document holds. */
    void sentence(String of) {
        sentence = of + " | ";
    }

    void due(String call, String want, String got) {
        made++;
        if (!got.equals(want)) {
            wrong++;
            System.out.println(sentence + call + " answered " + got + ", due is " + want);
        }
    }

    void due(String call, long want, long got) {
        due(call, Long.toString(want), Long.toString(got));
    }

    void due(String call, boolean want, boolean got) {
        due(call, Boolean.toString(want), Boolean.toString(got));
    }

    void end() {
        System.out.println(made + " answers looked at, " + wrong + " not as due");
        if (wrong != 0 || made == 0) {
            System.exit(1);
        }
    }
}
