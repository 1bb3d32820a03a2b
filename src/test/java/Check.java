/** Counts answers that are not as due, and prints them. */
final class Check {
    private int asked;
    private int wrong;

    void due(String what, long got, long want) {
        asked++;
        if (got != want) {
            wrong++;
            System.out.println(what + " answered " + got + ", due is " + want);
        }
    }

    void holds(String what, boolean so) {
        due(what, so ? 1 : 0, 1);
    }

    /** Ends the program: with 1, if an answer was not as due or nothing was asked. */
    void finish(String name) {
        System.out.println(name + ": " + asked + " answers, " + wrong + " not as due");
        System.exit(wrong == 0 && asked > 0 ? 0 : 1);
    }
}
