/** Counts and prints the answers that are not as due. */
final class Due {
    private final String test;
    private String place = "";
    private int checks = 0;
    private int wrong = 0;

    Due(String test) {
        this.test = test;
    }

    void at(String newPlace) {
        place = newPlace;
    }

    void is(String call, long got, long want) {
        checks++;
        if (got != want) {
            wrong++;
            System.out.println(test + ", " + place + ": " + call + " answered " + got + ", due is " + want);
        }
    }

    void is(String call, boolean got, boolean want) {
        is(call, got ? 1 : 0, want ? 1 : 0);
    }

    int wrong() {
        return wrong;
    }

    void end() {
        System.out.println(test + ": " + checks + " answers, " + wrong + " not as due");
        if (wrong != 0 || checks == 0) {
            System.exit(1);
        }
    }
}
