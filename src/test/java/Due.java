/** Counts answers that are not as due, and ends the run of a test. */
final class Due {
    private int wrong = 0;
    private int all = 0;
    private String about = "";

    void about(String what) {
        about = what;
    }

    void is(String call, long got, long want) {
        all++;
        if (got != want) {
            wrong++;
            System.out.println(about + ": " + call + " answered " + got + ", due is " + want);
        }
    }

    boolean allRight() {
        return wrong == 0;
    }

    void finish() {
        System.out.println(all + " answers, " + wrong + " not as due");
        if (wrong != 0 || all == 0) {
            System.exit(1);
        }
    }
}
