/** Counts the answers that are not as due, and tells them. */
final class Check {
    private int asked = 0;
    private int wrong = 0;
    private String about = "";

    void about(String what) {
        about = what;
    }

    void due(String call, long got, long want) {
        asked++;
        if (got == want) return;
        wrong++;
        System.out.println(about + ": " + call + " answered " + got + ", due is " + want);
    }

    void holds(String what, boolean so) {
        asked++;
        if (so) return;
        wrong++;
        System.out.println(about + ": not so: " + what);
    }

    /** Ends the test: with exit code 1 if something was not as due. */
    void end() {
        System.out.println(wrong == 0 ? asked + " answers are as due" : wrong + " of " + asked + " are not as due");
        if (wrong != 0) System.exit(1);
    }
}
