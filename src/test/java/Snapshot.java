import java.util.ArrayList;
import java.util.List;

/**
 * All that can be seen of an object after a run of calls, a line an answer. An object answers 512 calls only, and some
 * things are seen only by changing others, so the run is repeated on a new object for each part.
 */
final class Snapshot {
    private final List<String> calls;
    private final List<String> answers = new ArrayList<>();
    private LeaningLines object;
    private int made;

    private Snapshot(List<String> calls) {
        this.calls = calls;
    }

    static List<String> of(List<String> calls) {
        Snapshot snapshot = new Snapshot(calls);
        snapshot.state();
        snapshot.pixels(0);
        snapshot.pixels(8);
        snapshot.pad();
        snapshot.past();
        snapshot.slot(0);
        snapshot.slot(1);
        return snapshot.answers;
    }

    private void begin() {
        object = new LeaningLines();
        made = 0;
        for (String call : calls) {
            answer(call);
        }
    }

    private long answer(String call) {
        made++;
        if (made > Run.MOST_CALLS) {
            throw new IllegalStateException("the test makes too many calls: " + call);
        }
        return Calls.make(object, call);
    }

    private long ask(String part, String call) {
        long answer = answer(call);
        answers.add(part + call + " = " + answer);
        return answer;
    }

    private void numbers(String part) {
        for (int what = 0; what < 14; what++) {
            ask(part, Calls.call("count", what));
        }
    }

    private void things(String part) {
        for (int thing = 0; thing < 8; thing++) {
            for (int what = 0; what < 8; what++) {
                ask(part, Calls.call("of", thing, what));
            }
        }
    }

    private void lines(String part, int what) {
        for (int line = 0; line < 16; line++) {
            ask(part, Calls.call("ofLine", line, what));
        }
    }

    private void state() {
        begin();
        numbers("");
        things("");
        for (int thing = 0; thing < 8; thing++) {
            ask("", Calls.call("leans", thing));
        }
        for (int what = 0; what < 3; what++) {
            lines("", what);
        }
        for (int place = 0; place < 16; place++) {
            ask("", Calls.call("seen", place, 23 - place, 6 * place));
        }
        ask("", "bent()");
        ask("", "flashed()");
        ask("", "bestFlash(7, 0)");
        ask("", "bestFlash(7, 1)");
        ask("", "fault()");
    }

    private void pixels(int from) {
        begin();
        for (int line = from; line < from + 8; line++) {
            for (int column = 0; column < 24; column++) {
                ask("", Calls.call("pixel", line, column));
            }
        }
    }

    private void pad() {
        begin();
        ask("of the pad: ", "carryOut()");
        numbers("after the pad: ");
        things("after the pad: ");
        lines("after the pad: ", 1);
        ask("of the pad: ", "wipe()");
    }

    private void past() {
        begin();
        boolean more = true;
        for (int back = 1; more && back <= 7; back++) {
            String part = back + " back: ";
            more = ask(part, "undo()") >= 0;
            numbers(part);
            for (int thing = 0; thing < 8; thing++) {
                for (int what = 0; what < 7; what += 3) {
                    ask(part, Calls.call("of", thing, what));
                }
                ask(part, Calls.call("of", thing, 1));
            }
        }
    }

    private void slot(int slot) {
        begin();
        String part = "slot " + slot + ": ";
        ask(part, Calls.call("restore", slot));
        numbers(part);
        things(part);
        lines(part, 1);
    }
}
