/** Compares answers with those that are due, prints those that differ, and counts both. */
final class Due {
    private static int asked = 0;
    private static int wrong = 0;

    private final String about;

    Due(String about) {
        this.about = about;
    }

    void is(String call, long got, long want) {
        asked++;
        if (got != want) {
            wrong++;
            System.out.println(about + ": " + call + " answered " + got + ", due is " + want);
        }
    }

    void same(String claim, String got, String want) {
        asked++;
        if (!got.equals(want)) {
            wrong++;
            System.out.println(about + ": " + claim + "\n  is  " + got + "\n  due " + want);
        }
    }

    void holds(String claim, boolean isTrue) {
        is(claim, isTrue ? 1 : 0, 1);
    }

    static boolean anyWrong() {
        return wrong != 0;
    }

    /** Ends the program: with exit code 1 if an answer was not as due. */
    static void close() {
        System.out.println(asked + " answers asked, " + wrong + " not as due");
        System.exit(wrong == 0 && asked != 0 ? 0 : 1);
    }
}
