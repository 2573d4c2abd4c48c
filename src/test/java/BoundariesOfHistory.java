import java.util.ArrayList;
import java.util.List;

/** Promises 23 to 25: undo, save and restore. */
final class BoundariesOfHistory extends Boundaries {
    BoundariesOfHistory(Sentences sentences) {
        super(sentences);
    }

    @Override
    void all() {
        undo();
        save();
        restore();
    }

    private void undo() {
        section("Promise 23: undo");
        test("Undoes the latest change: everything except the pad, the slots and the history is as it was before it.",
                this::undoesAll);
        test("A history of at most 6 states is kept:", this::sixStates);
        test("each method that is a change, and returns no error, records the state before it (also if nothing is different "
                + "then);", this::recorded);
        test("when one more is recorded, the oldest one is dropped.", this::oldestDropped);
        test("An order of a text records nothing by itself.", this::ordersRecordNothing);
        test("Returns how many changes can be undone then;", this::howMany);
        test("NOT_POSSIBLE if there is none.", this::nothingToUndo);
    }

    private void save() {
        section("Promise 24: save");
        test("Saves everything except the pad, the history and the slots in a slot,", this::savesAll);
        test("and overwrites what was saved there.", this::overwrites);
        test("- `slot`: 0 or 1", this::saveSlots);
        test("Returns how many things there are;", this::thingsSaved);
        test("BAD_VALUE if there is no such slot.", x -> noSuchSlot(x, "save(?)"));
    }

    private void restore() {
        section("Promise 25: restore");
        test("Restores what was saved last in a slot, which keeps it.", this::restoresLast);
        test("This is a change.", this::restoreIsChange);
        test("- `slot`: 0 or 1", this::restoreSlots);
        test("Returns how many things there are then;", this::thingsRestored);
        test("BAD_VALUE if there is no such slot;", x -> noSuchSlot(x, "restore(?)"));
        test("NOT_POSSIBLE if nothing was saved in it.", this::nothingSaved);
    }

    private void undoesAll(Run x) {
        x.make("thing(1, 2, 3, 4, 5)", "thing(2, 3, 4, 5, 6)", "speed(0, 9)", "flash(3, 4)", "shoot()", "save(0)");
        for (String change : new String[] {"set(0, 9)", "set(1, 20)", "set(2, 40)", "set(3, 2)", "thing(0, 0, 1, 1, 1)",
            "speed(1, -40)", "ride(1, 0)", "flash(9, 9)", "pass(9)", "shoot()", "restore(0)"}) {
            x.same(change + " and undo()", List.of(change, "undo()"), List.of());
        }
        // the pad and the slots stay
        x.text("w5");
        x.make("pass(3)");
        x.text(";p");
        x.make("save(1)", "undo()");
        x.due("count(12)", 4);
        x.due("count(0)", 34);
        x.due("restore(1)", 2);
        x.due("count(0)", 37);
        x.make("undo()");
        x.due("carryOut()", 2);
        x.make("undo()");
        x.due("count(12)", 0);
        x.due("count(0)", 34);
        eightForEight(x.another());
    }

    /** Eight things of one kind or of the other, which differ in all that a thing has. */
    private static long[] thingOf(int kind, int thing) {
        return kind == 0 ? new long[] {thing, thing, 16 - thing, 1 + thing, 1 + thing, 10 + thing}
                : new long[] {15 - thing, 23 - thing, 1 + thing, 24 - thing, 9 - thing, -10 - thing};
    }

    private static void come(Run x, int kind) {
        for (int thing = 0; thing < 8; thing++) {
            long[] one = thingOf(kind, thing);
            x.make(call("thing", one[0], one[1], one[2], one[3], one[4]), call("speed", thing, one[5]));
            if (kind == 0 && thing > 0) {
                x.make(call("ride", thing, thing - 1));
            }
        }
    }

    private static void areThere(Run x, int kind) {
        for (int thing = 0; thing < 8; thing++) {
            long[] one = thingOf(kind, thing);
            x.due(call("of", thing, 0), one[0]);
            x.due(call("of", thing, 1), 1000 + one[1]);
            for (int what = 2; what < 5; what++) {
                x.due(call("of", thing, what), one[what]);
            }
            x.due(call("of", thing, 5), 100 + one[5]);
            x.due(call("of", thing, 6), kind == 0 && thing > 0 ? thing - 1 : NONE);
        }
    }

    /** Numbers are given again: eight things are there in the place of eight others. */
    private void eightForEight(Run x) {
        x.make("save(1)");
        come(x, 0);
        x.make("save(0)", "restore(1)", "pass(3)");
        come(x, 1);
        x.make("save(1)");
        areThere(x, 1);
        x.make("restore(0)");
        areThere(x, 0);
        x.make("undo()");
        areThere(x, 1);
        x.make("restore(0)", "restore(1)", "pass(1)");
        x.due("of(7, 1)", 1000 + 16 - 2);
        x.make("undo()", "undo()", "pass(1)");
        // each of the eight rides on all before it: 10 to 17 tenths, rounded down
        x.due("of(7, 1)", 1000 + 7 + 8);
    }

    private void sixStates(Run x) {
        for (int many = 0; many <= 20; many++) {
            Run y = x.another();
            for (int change = 0; change < many; change++) {
                y.make("pass(1)");
            }
            int kept = Math.min(6, many);
            y.due("count(13)", kept);
            for (int back = 1; back <= kept; back++) {
                y.due("undo()", kept - back);
                y.due("count(0)", many - back);
            }
            y.refused("undo()", NOT_POSSIBLE);
            y.due("count(0)", many - kept);
            y.due("count(13)", 0);
        }
    }

    private void recorded(Run x) {
        String[] changes = {"set(0, 9)", "thing(1, 1, 1, 1, 1)", "speed(0, 9)", "ride(1, 0)", "flash(9, 9)", "pass(9)",
            "shoot()", "restore(1)"};
        String[] sameThen = {"set(0, 2)", "set(1, 4)", "set(2, 0)", "set(3, 1)", "speed(0, 0)", "ride(0, -6)", "ride(1, -6)",
            "flash(0, 1)", "restore(0)"};
        x.make("save(1)", "thing(0, 0, 1, 1, 1)", "thing(0, 0, 1, 1, 1)", "flash(0, 1)", "save(0)");
        for (String[] calls : new String[][] {changes, sameThen}) {
            for (String call : calls) {
                Run y = x.another();
                y.make("save(1)", "thing(0, 0, 1, 1, 1)", "thing(0, 0, 1, 1, 1)", "flash(0, 1)", "save(0)");
                y.isChange(call);
            }
        }
        x.carryOutIsChange("w1");
        x.carryOutIsChange("w0");
        recordsNothing(x.another());
    }

    /** What returns an error, and what is no change. */
    private void recordsNothing(Run x) {
        x.make("thing(0, 0, 1, 1, 1)", "set(0, 10)", "thing(16, 0, 1, 1, 1)", "speed(1, 0)", "speed(0, 41)", "ride(0, 0)",
                "ride(1, 0)", "flash(100, 1)", "pass(0)", "restore(0)", "restore(2)", "carryOut()");
        x.due("count(13)", 1);
        x.make("save(0)", "save(1)", "put(112)", "fault()", "wipe()", "of(0, 0)", "pixel(0, 0)", "joined(0, 0)", "ofLine(0, 0)",
                "seen(0, 0, 0)", "leans(0)", "bent()", "flashed()", "bestFlash(1, 0)");
        x.due("count(13)", 1);
        x.due("undo()", 0);
        x.due("count(1)", 0);
        x.passTo(9999);
        x.make("undo()");
        x.passTo(9999);
        eightThings(x, 1);
        x.make("undo()", "thing(0, 0, 1, 1, 1)", "thing(0, 0, 1, 1, 1)", "pass(1)", "shoot()");
        x.due("undo()", 5);
        x.due("count(1)", 7);
        x.due("undo()", 4);
        x.due("count(1)", 6);
    }

    private void oldestDropped(Run x) {
        // in a history that is full, and emptied in part, again and again
        List<Integer> times = new ArrayList<>();
        int time = 0;
        for (int round = 1; round <= 12; round++) {
            for (int change = 0; change < round; change++) {
                times.add(time);
                time += round;
                x.due(call("pass", round), time);
            }
            while (times.size() > 6) {
                times.remove(0);
            }
            x.due("count(13)", times.size());
            for (int back = 0; back < round % 4; back++) {
                time = times.remove(times.size() - 1);
                x.due("undo()", times.size());
                x.due("count(0)", time);
            }
        }
        while (!times.isEmpty()) {
            time = times.remove(times.size() - 1);
            x.due("undo()", times.size());
            x.due("count(0)", time);
        }
        x.refused("undo()", NOT_POSSIBLE);
        Run y = x.another();
        y.make("thing(0, 0, 1, 1, 1)", "thing(0, 0, 1, 1, 1)", "pass(1)", "pass(1)", "pass(1)", "pass(1)", "pass(1)");
        for (int left = 5; left >= 0; left--) {
            y.due("undo()", left);
        }
        // that the first thing came can't be undone any more
        y.due("count(1)", 1);
        y.due("count(0)", 0);
        y.refused("undo()", NOT_POSSIBLE);
    }

    private void ordersRecordNothing(Run x) {
        x.text("w1;f1.2;g0,0,1,1*1+2;p;w2;w3;w4;w5");
        x.due("carryOut()", 8);
        x.due("count(13)", 1);
        x.due("undo()", 0);
        x.due("count(0)", 0);
        x.due("count(1)", 0);
        x.due("count(6)", NONE);
        x.refused("undo()", NOT_POSSIBLE);
        x.text("w1;w0");
        x.due("carryOut()", 1);
        x.text("w0");
        x.due("carryOut()", 0);
        x.due("count(13)", 2);
    }

    private void howMany(Run x) {
        x.make("pass(1)");
        x.due("undo()", 0);
        x.make("pass(1)", "pass(2)", "pass(3)", "pass(4)", "pass(5)", "pass(6)", "pass(7)");
        for (int left = 5; left >= 0; left--) {
            x.due("undo()", left);
            x.due("count(13)", left);
        }
        x.make("pass(1)", "pass(1)");
        x.due("undo()", 1);
        x.make("pass(1)");
        x.due("undo()", 1);
        x.due("undo()", 0);
    }

    private void nothingToUndo(Run x) {
        x.refused("undo()", NOT_POSSIBLE);
        x.text("p");
        x.make("save(0)");
        x.refused("undo()", NOT_POSSIBLE);
        x.make("thing(0, 0, 1, 1, 1)", "undo()");
        x.refused("undo()", NOT_POSSIBLE);
        x.make("pass(0)");
        x.refused("undo()", NOT_POSSIBLE);
    }

    private void savesAll(Run x) {
        full(x);
        x.make("save(1)");
        long[] numbers = answers(x, "count", 1, 12);
        long[] lines = answers(x, "ofLine", 16, 2);
        long[] things = answers(x, "of", 8, 8);
        // back to slot 0, as the time is up, and everything else
        x.make("set(0, 9)", "set(1, 20)", "set(2, 40)", "set(3, 4)", "speed(0, 40)", "ride(3, -6)", "flash(99, 1)",
                "restore(0)", "shoot()", "pass(1)", "wipe()");
        x.text("w5");
        x.due("restore(1)", 8);
        dueAgain(x, "count", 12, numbers);
        dueAgain(x, "ofLine", 2, lines);
        dueAgain(x, "of", 8, things);
        // neither the pad, nor the history, nor the slots
        x.due("count(12)", 2);
        x.due("count(13)", 6);
        Run y = x.another();
        y.make("pass(1)", "save(0)", "pass(2)", "save(1)", "restore(0)", "restore(1)");
        y.due("count(0)", 3);
        y.due("count(13)", 4);
    }

    /** Calls with two numbers, or of count() with the second one alone. */
    private static String lookAt(String name, int which, int what) {
        return name.equals("count") ? call(name, what) : call(name, which, what);
    }

    private static long[] answers(Run x, String name, int many, int whats) {
        long[] answers = new long[many * whats];
        for (int one = 0; one < answers.length; one++) {
            answers[one] = x.make(lookAt(name, one / whats, one % whats));
        }
        return answers;
    }

    private static void dueAgain(Run x, String name, int whats, long[] answers) {
        for (int one = 0; one < answers.length; one++) {
            x.due(lookAt(name, one / whats, one % whats), answers[one]);
        }
    }

    private void overwrites(Run x) {
        for (int slot = 0; slot < 2; slot++) {
            Run y = x.another();
            String save = call("save", slot);
            String restore = call("restore", slot);
            y.make("thing(1, 2, 3, 4, 5)", "thing(1, 2, 3, 4, 5)", "set(0, 9)", "shoot()", save);
            y.make("undo()", "undo()", "undo()", save);
            y.due(restore, 1);
            y.due("count(8)", 2);
            y.due("count(2)", 0);
            y.make("undo()", "undo()", save, "pass(5)");
            y.due(restore, 0);
            y.due("count(0)", 0);
            y.refused(call("restore", 1 - slot), NOT_POSSIBLE);
        }
    }

    private void saveSlots(Run x) {
        x.eachRefused(BAD_VALUE, out("save(?)", -6, -1, 2));
        x.due("save(0)", 0);
        x.make("pass(1)");
        x.due("save(1)", 0);
        x.make("pass(1)", "restore(0)");
        x.due("count(0)", 0);
        x.make("restore(1)");
        x.due("count(0)", 1);
    }

    private void thingsSaved(Run x) {
        x.due("save(0)", 0);
        for (int thing = 0; thing < 8; thing++) {
            x.make("thing(0, 0, 1, 1, 1)");
            x.due(call("save", thing % 2), thing + 1);
        }
        x.make("undo()");
        x.due("save(0)", 7);
        x.due("count(13)", 5);
    }

    private void noSuchSlot(Run x, String form) {
        x.eachRefused(BAD_VALUE, out(form, -6, -1, 2));
        x.make("thing(0, 0, 1, 1, 1)", "save(0)", "pass(1)", "save(1)", "pass(1)");
        x.eachRefused(BAD_VALUE, out(form, -6, -1, 2, 3));
    }

    private void restoresLast(Run x) {
        x.make("thing(1, 2, 3, 4, 5)", "speed(0, 10)", "save(0)", "pass(5)", "save(1)", "speed(0, -10)", "pass(9)");
        for (int round = 0; round < 3; round++) {
            x.due("restore(0)", 1);
            x.due("count(0)", 0);
            x.due("of(0, 1)", 1002);
            x.make("pass(1)", "speed(0, 0)", "thing(0, 0, 1, 1, 1)");
            x.due("restore(1)", 1);
            x.due("count(0)", 5);
            x.due("of(0, 1)", 1007);
            x.due("of(1, 1)", NO_SUCH);
            x.make("pass(1)", "shoot()");
        }
        x.make("save(0)");
        x.due("restore(0)", 1);
        x.due("count(0)", 40);
        eightForEight(x.another());
    }

    private void restoreIsChange(Run x) {
        x.make("thing(1, 2, 3, 4, 5)", "save(0)", "pass(5)");
        x.isChange("restore(0)");
        // also if nothing is different then
        x.isChange("restore(0)");
        Run y = x.another();
        y.make("save(1)", "pass(1)", "pass(1)", "pass(1)", "pass(1)", "pass(1)", "pass(1)");
        y.due("restore(1)", 0);
        y.due("count(13)", 6);
        for (int time = 6; time > 0; time--) {
            y.due("undo()", time - 1);
            y.due("count(0)", time);
        }
        y.refused("undo()", NOT_POSSIBLE);
    }

    private void restoreSlots(Run x) {
        x.make("save(0)", "pass(1)", "save(1)", "pass(1)");
        x.eachRefused(BAD_VALUE, out("restore(?)", -6, -1, 2));
        x.due("restore(0)", 0);
        x.due("count(0)", 0);
        x.due("restore(1)", 0);
        x.due("count(0)", 1);
    }

    private void thingsRestored(Run x) {
        x.make("save(0)");
        eightThings(x, 1);
        x.make("save(1)");
        x.due("restore(0)", 0);
        x.due("count(1)", 0);
        x.due("restore(1)", 8);
        x.due("count(1)", 8);
        x.refused("thing(0, 0, 1, 1, 1)", TOO_MANY);
        x.due("restore(0)", 0);
        x.due("thing(0, 0, 1, 1, 1)", 0);
    }

    private void nothingSaved(Run x) {
        x.eachRefused(NOT_POSSIBLE, "restore(0)", "restore(1)");
        x.make("thing(0, 0, 1, 1, 1)", "save(1)");
        x.refused("restore(0)", NOT_POSSIBLE);
        x.due("restore(1)", 1);
        x.make("undo()", "undo()");
        x.refused("restore(0)", NOT_POSSIBLE);
        x.due("restore(1)", 1);
        Run y = x.another();
        y.make("save(0)");
        y.refused("restore(1)", NOT_POSSIBLE);
        y.due("restore(0)", 0);
        y.refused("restore(1)", NOT_POSSIBLE);
    }
}
