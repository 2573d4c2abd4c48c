/** Counts answers that are due and answers that are not, for all tests of the project. */
final class Checks {
    private static final int MOST_PRINTED = 40;

    private final String name;
    private int right = 0;
    private int wrong = 0;

    Checks(String name) {
        this.name = name;
    }

    void due(String call, long got, long want) {
        check(got == want, call + " answered " + got + ", due is " + want);
    }

    void check(boolean holds, String otherwise) {
        if (holds) {
            right++;
            return;
        }
        wrong++;
        if (wrong <= MOST_PRINTED) {
            System.out.println(name + ": " + otherwise);
        }
    }

    int wrong() {
        return wrong;
    }

    int made() {
        return right + wrong;
    }

    /** Ends the program: with exit code 1 if one check failed, or if none was made. */
    void end() {
        System.out.println(name + ": " + right + " checks hold, " + wrong + " do not");
        System.exit(wrong != 0 || right == 0 ? 1 : 0);
    }

    /** Puts a whole text on the pad, and answers what the last call answered. */
    static int putText(LeaningLines x, String text) {
        int answer = 0;
        for (int from = 0; from < text.length(); from += 8) {
            answer = x.put(packed(text.substring(from, Math.min(text.length(), from + 8))));
        }
        return answer;
    }

    static long packed(String characters) {
        long packed = 0;
        for (char one : characters.toCharArray()) {
            packed = packed << 8 | one;
        }
        return packed;
    }
}
