import java.util.ArrayList;
import java.util.List;

/** One object, and the calls that were made on it. */
final class Run {
    static final int MOST_CALLS = 512;
    private static final int MOST_TICKS = 99;
    /** So many orders "w99" fill the pad. */
    private static final int ORDERS_AT_ONCE = 20;

    private final Checks checks;
    private final String about;
    private final LeaningLines object = new LeaningLines();
    /** Those calls that can change something. */
    private final List<String> calls = new ArrayList<>();
    private int made = 0;

    Run(Checks checks, String about) {
        this.checks = checks;
        this.about = about;
    }

    /** A new object, for the same test. */
    Run another() {
        return new Run(checks, about);
    }

    private long answer(String call) {
        made++;
        if (made > MOST_CALLS) {
            throw new IllegalStateException("the test makes too many calls: " + call);
        }
        return Calls.make(object, call);
    }

    /** Calls whose answers are not looked at; the last one's is returned. */
    long make(String... some) {
        long answer = 0;
        for (String call : some) {
            if (!Calls.isLook(call)) {
                calls.add(call);
            }
            answer = answer(call);
        }
        return answer;
    }

    void due(String call, long want) {
        checks.due(about + call, make(call), want);
    }

    void equal(String told, long got, long want) {
        checks.due(about + told, got, want);
    }

    /** Puts a whole text on the pad. */
    void text(String text) {
        make(puts(text).toArray(new String[0]));
    }

    static List<String> puts(String text) {
        List<String> puts = new ArrayList<>();
        for (int from = 0; from < text.length(); from += 8) {
            puts.add(Calls.put(text.substring(from, Math.min(text.length(), from + 8))));
        }
        return puts;
    }

    /** Lets the time pass, with as few calls as can be. */
    void passTo(int time) {
        while (time - make("count(0)") >= ORDERS_AT_ONCE * MOST_TICKS) {
            text("w99;".repeat(ORDERS_AT_ONCE - 1) + "w99");
            make("carryOut()");
        }
        for (long rest = time - make("count(0)"); rest > 0; rest -= MOST_TICKS) {
            make(Calls.call("pass", Math.min(MOST_TICKS, rest)));
        }
        due("count(0)", time);
    }

    /** A call that answers an error: all that can be seen of the object must be as it would be without the call. */
    void refused(String call, long error) {
        checks.due(about + call, answer(call), error);
        same(call, List.of(call), List.of());
    }

    void eachRefused(long error, String... some) {
        for (String call : some) {
            refused(call, error);
        }
    }

    /** A call that answers without an error, and changes nothing. */
    void changesNothing(String call) {
        checks.check(answer(call) >= 0, about + call + " answered an error");
        same(call, List.of(call), List.of());
    }

    /** A change: it records one state, undo() takes all of it back. There must be room for a state in the history. */
    void isChange(String call) {
        isChange(call, List.of());
    }

    /** The same of a carryOut() of a text: what is on the pad is not brought back. */
    void carryOutIsChange(String text) {
        text(text);
        isChange("carryOut()", List.of("wipe()"));
    }

    private void isChange(String call, List<String> butFor) {
        same(call + " and undo()", List.of(call, "undo()"), butFor);
        long before = make("count(13)");
        checks.check(make(call) >= 0 || call.startsWith("ride("), about + call + " answered an error");
        due("count(13)", before + 1);
    }

    /** After these further calls all must be as after those. */
    void same(String told, List<String> these, List<String> those) {
        List<String> got = Snapshot.of(with(these));
        List<String> want = Snapshot.of(with(those));
        checks.check(got.size() == want.size(), about + told + ": the histories are of other lengths");
        for (int one = 0; one < Math.min(got.size(), want.size()); one++) {
            if (!got.get(one).equals(want.get(one))) {
                checks.check(false, about + told + " changes " + want.get(one) + " to " + got.get(one));
                return;
            }
        }
        checks.check(true, "");
    }

    private List<String> with(List<String> more) {
        List<String> all = new ArrayList<>(calls);
        all.addAll(more);
        return all;
    }
}
