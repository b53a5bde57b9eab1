/** Counts answers that are not the due ones, and ends the program with exit code 1 if there was one. */
final class Check {
    private static final int MOST_TOLD = 50;
    private String place = "";
    private int checks = 0;
    private int wrong = 0;

    void at(String newPlace) {
        place = newPlace;
    }

    void due(String call, long got, long want) {
        checks++;
        if (got != want) {
            wrong++;
            if (wrong <= MOST_TOLD) {
                System.out.println(place + ": " + call + " answered " + got + ", due is " + want);
            }
        }
    }

    void due(String call, boolean got, boolean want) {
        due(call, got ? 1L : 0L, want ? 1L : 0L);
    }

    boolean anyWrong() {
        return wrong > 0;
    }

    /** Whether one more wrong answer would still be told. */
    boolean fewWrong() {
        return wrong < MOST_TOLD;
    }

    void end() {
        System.out.println(checks + " checks, " + wrong + " wrong");
        if (wrong > 0) {
            System.exit(1);
        }
    }
}
