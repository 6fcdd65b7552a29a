/** Counts the answers of one test and prints those that are not as due. */
final class Check {
    static final long NO = -4611686018427387904L;
    static final int NONE = -1, BAD = -2, STATE = -3, FULL = -4;
    static final int ABSENT = -11, OUTSIDE = -12, OTHER = -13, NEGATIVE = -14;

    private final String name;
    private int right;
    private int wrong;

    Check(String name) {
        this.name = name;
    }

    void due(String call, long got, long want) {
        if (got == want) {
            right++;
        } else {
            wrong++;
            System.out.println(name + ": " + call + " answered " + got + ", due is " + want);
        }
    }

    void isTrue(String claim, boolean holds) {
        due(claim, holds ? 1 : 0, 1);
    }

    int wrongCount() {
        return wrong;
    }

    void end() {
        System.out.println(name + ": " + right + " answers as due, " + wrong + " not");
        if (wrong != 0 || right == 0) {
            System.exit(1);
        }
    }
}
