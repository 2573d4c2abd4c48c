import java.util.function.Consumer;
import java.util.stream.IntStream;

/** What the tests of boundaries have in common: the codes, calls with arguments out of range, and some scenes. */
abstract class Boundaries {
    static final int NO_SUCH = -1, BAD_VALUE = -2, BAD_TEXT = -3, TOO_MANY = -4, NOT_POSSIBLE = -5, NONE = -6;
    static final String DIGITS = "0123456789";
    private static final int[] FAR = {Integer.MIN_VALUE, Integer.MIN_VALUE + 1, -65536, -256, 256, 65536,
        Integer.MAX_VALUE - 1, Integer.MAX_VALUE};

    private final Sentences sentences;

    Boundaries(Sentences sentences) {
        this.sentences = sentences;
    }

    /** Each sentence with its test, in the order of the document. */
    abstract void all();

    final void section(String title) {
        sentences.section(title);
    }

    final void test(String sentence, Consumer<Run> test) {
        sentences.test(sentence, test);
    }

    static String call(String name, long... arguments) {
        return Calls.call(name, arguments);
    }

    /** The call with each of the values in the place of its question mark. */
    static String[] each(String form, int... values) {
        return IntStream.of(values).mapToObj(value -> form.replace("?", Integer.toString(value))).toArray(String[]::new);
    }

    /** The same with these values and with some that are far out of every range. */
    static String[] out(String form, int... values) {
        return each(form, IntStream.concat(IntStream.of(values), IntStream.of(FAR)).toArray());
    }

    /** Eight things, each over the whole picture. */
    static void eightThings(Run x, int brightness) {
        for (int thing = 0; thing < 8; thing++) {
            x.due(call("thing", 0, 0, 16, 24, brightness), thing);
        }
    }

    /**
     * All is full: eight things that go and ride, the last time, six changes, a pad of 80 characters without a fault; a
     * picture, a flash, and settings that are not the first ones. Slot 0 holds something, slot 1 does not.
     */
    static void full(Run x) {
        x.make("set(0, 3)", "set(1, 5)", "set(2, 11)", "set(3, 3)");
        x.passTo(9900);
        for (int thing = 0; thing < 8; thing++) {
            x.make(call("thing", thing, 2 * thing, 16 - thing, 1 + thing, 1 + thing), call("speed", thing, 7 - 2 * thing));
        }
        x.make("ride(3, 1)", "ride(5, 3)", "ride(6, 3)", "save(0)");
        x.make("flash(4, 20)", "shoot()", "pass(48)", "pass(1)", "speed(2, 9)", "flash(7, 9)");
        x.text("f1.2;".repeat(15) + "f3.14");
        x.due("count(0)", 9999);
        x.due("count(1)", 8);
        x.due("count(12)", 80);
        x.due("count(13)", 6);
    }
}
