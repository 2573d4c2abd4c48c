/** Promises 1 to 8: a new object, and the changes. */
final class BoundariesOfChanges extends Boundaries {
    private static final String CHANGE = "This is a change.";
    private static final int[] LEAST = {0, 1, 0, 1}, MOST = {9, 20, 40, 4}, FIRST = {2, 4, 0, 1};

    BoundariesOfChanges(Sentences sentences) {
        super(sentences);
    }

    @Override
    void all() {
        section("Promise 1: A new object");
        test("Creates a scene without things, at the time 0, and a picture that is dark.", this::newObject);
        set();
        thing();
        speed();
        ride();
        flash();
        pass();
        shoot();
    }

    private void set() {
        section("Promise 2: set");
        test("Changes a setting (the latest picture stays).", this::pictureStays);
        test(CHANGE, this::setIsChange);
        test("Returns the previous value;", this::previousValue);
        test("BAD_VALUE if there is no such setting, or the value is out of its range.", this::wrongSetting);
    }

    private void thing() {
        section("Promise 3: thing");
        test("A thing comes, standing still on the ground.", this::standsStill);
        test(CHANGE, this::thingIsChange);
        test("- `line`: 0 to 15", x -> thingsRange(x, "thing(?, 0, 1, 1, 1)", 0, 0, 15));
        test("- `left`: 0 to 23", x -> thingsRange(x, "thing(0, ?, 1, 1, 1)", 1, 0, 23));
        test("- `high`: 1 to 16", x -> thingsRange(x, "thing(0, 0, ?, 1, 1)", 2, 1, 16));
        test("- `wide`: 1 to 24", x -> thingsRange(x, "thing(0, 0, 1, ?, 1)", 3, 1, 24));
        test("- `brightness`: 1 to 9", x -> thingsRange(x, "thing(0, 0, 1, 1, ?)", 4, 1, 9));
        test("Returns its number;", x -> eightThings(x, 1));
        test("BAD_VALUE if an argument is out of range;", this::wrongThing);
        test("TOO_MANY if there are 8 things.", this::tooManyThings);
    }

    private void speed() {
        section("Promise 4: speed");
        test("Changes the speed of a thing from now on: it comes anew, with its left column of now.", this::newSpeed);
        test(CHANGE, this::speedIsChange);
        test("- `speed`: -40 to 40", this::speedRange);
        test("Returns the previous one and 100;", this::previousSpeed);
        test("NO_SUCH if there is no such thing;", x -> noSuchThing(x, "speed(?, 0)"));
        test("BAD_VALUE if speed is out of range.", this::wrongSpeed);
    }

    private void ride() {
        section("Promise 5: ride");
        test("Puts a thing on another one, or on the ground: it comes anew, with its left column of now.", this::newRide);
        test(CHANGE, this::rideIsChange);
        test("- `on`: a thing with a lower number, or NONE for the ground", this::rideRange);
        test("Returns that on which it was (NONE);", this::previousRide);
        test("NO_SUCH if there is no such thing;", this::noRider);
        test("BAD_VALUE if on is not lower than it.", this::notLower);
    }

    private void flash() {
        section("Promise 6: flash");
        test("Sets the flash.", this::setsFlash);
        test(CHANGE, this::flashIsChange);
        test("- `in`: 0 to 99: in how many ticks it burns", this::flashIn);
        test("- `many`: 1 to 20: for how many ticks", this::flashMany);
        test("Returns the time at which it burns;", this::timeOfFlash);
        test("BAD_VALUE if an argument is out of range.", this::wrongFlash);
    }

    private void pass() {
        section("Promise 7: pass");
        test("Ticks pass.", this::ticksPass);
        test(CHANGE, this::passIsChange);
        test("- `ticks`: 1 to 99", this::passRange);
        test("Returns the time then;", this::timeThen);
        test("BAD_VALUE if ticks is out of range;", this::wrongPass);
        test("NOT_POSSIBLE if it would be above 9999.", this::passBeyond);
    }

    private void shoot() {
        section("Promise 8: shoot");
        test("Shoots a picture, beginning now.", this::shootsNow);
        test(CHANGE, this::shootIsChange);
        test("Returns the sum of all its pixels;", this::sumOfPixels);
        test("NOT_POSSIBLE if the time would be above 9999.", this::shootBeyond);
    }

    private void newObject(Run x) {
        int[] counts = {0, 0, 0, 0xFFFF, 0, 0, NONE, 0, 2, 4, 0, 1, 0, 0};
        for (int what = 0; what < counts.length; what++) {
            x.due(call("count", what), counts[what]);
        }
        for (int line = 0; line < 16; line++) {
            x.due(call("ofLine", line, 0), 0);
            x.due(call("ofLine", line, 1), 0);
            x.due(call("ofLine", line, 2), NONE);
            x.due(call("joined", line, line), 0);
        }
        for (int thing = 0; thing < 8; thing++) {
            x.due(call("of", thing, 0), NO_SUCH);
            x.due(call("leans", thing), NO_SUCH);
        }
        x.due("seen(0, 0, 0)", 0);
        x.due("bent()", 0);
        x.due("flashed()", 0);
        x.due("fault()", 0);
        x.eachRefused(NOT_POSSIBLE, "undo()", "restore(0)", "restore(1)");
        x.refused("carryOut()", BAD_TEXT);
        x.due("wipe()", 0);
        Run y = x.another();
        full(y);
        for (int what = 0; what < counts.length; what++) {
            x.due(call("count", what), counts[what]);
        }
    }

    private void pictureStays(Run x) {
        x.make("thing(0, 0, 16, 24, 5)", "speed(0, 7)", "shoot()");
        long[] sums = new long[16];
        long[] columns = new long[16];
        for (int line = 0; line < 16; line++) {
            sums[line] = x.make(call("ofLine", line, 1));
            columns[line] = x.make(call("ofLine", line, 0));
        }
        x.make("set(0, 9)", "set(1, 20)", "set(2, 1)", "set(3, 4)");
        for (int line = 0; line < 16; line++) {
            x.due(call("ofLine", line, 1), sums[line]);
            x.due(call("ofLine", line, 0), columns[line]);
        }
        x.due("pixel(0, 23)", 20);
        x.due("count(2)", 1);
        x.due("count(0)", 34);
    }

    private void setIsChange(Run x) {
        x.make("thing(0, 0, 16, 24, 5)", "shoot()");
        x.isChange("set(0, 9)");
        // also if nothing is different then
        x.isChange("set(0, 9)");
        x.isChange("set(1, 1)");
        x.isChange("set(2, 40)");
    }

    private void previousValue(Run x) {
        for (int setting = 0; setting < 4; setting++) {
            x.due(call("set", setting, LEAST[setting]), FIRST[setting]);
            x.due(call("set", setting, MOST[setting]), LEAST[setting]);
            x.due(call("set", setting, MOST[setting]), MOST[setting]);
            x.due(call("count", 8 + setting), MOST[setting]);
        }
        for (int setting = 0; setting < 4; setting++) {
            x.due(call("set", setting, LEAST[setting]), MOST[setting]);
        }
    }

    private void wrongSetting(Run x) {
        x.make("thing(0, 0, 1, 1, 1)");
        x.eachRefused(BAD_VALUE, out("set(?, 1)", -1, 4));
        for (int setting = 0; setting < 4; setting++) {
            x.eachRefused(BAD_VALUE, out("set(" + setting + ", ?)", -1, LEAST[setting] - 1, MOST[setting] + 1));
        }
        x.eachRefused(BAD_VALUE, "set(4, 41)", "set(-1, -1)");
    }

    private void standsStill(Run x) {
        x.make("thing(3, 4, 5, 6, 7)", "speed(0, 40)", "pass(10)");
        x.due("thing(15, 23, 16, 24, 9)", 1);
        int[] there = {15, 1023, 16, 24, 9, 100, NONE, 1000};
        for (int pass = 0; pass < 3; pass++) {
            for (int what = 0; what < 8; what++) {
                x.due(call("of", 1, what), there[what]);
            }
            x.make("pass(99)");
        }
    }

    private void thingIsChange(Run x) {
        x.make("pass(5)");
        x.isChange("thing(0, 0, 1, 1, 1)");
        x.isChange("thing(15, 23, 16, 24, 9)");
    }

    private void thingsRange(Run x, String form, int what, int least, int most) {
        x.eachRefused(BAD_VALUE, out(form, -1, least - 1, most + 1));
        x.due(form.replace("?", Integer.toString(least)), 0);
        x.due(form.replace("?", Integer.toString(most)), 1);
        int more = what == 1 ? 1000 : 0;
        x.due(call("of", 0, what), least + more);
        x.due(call("of", 1, what), most + more);
    }

    private void wrongThing(Run x) {
        x.make("thing(1, 2, 3, 4, 5)");
        x.eachRefused(BAD_VALUE, "thing(-1, -1, 0, 0, 0)", "thing(16, 24, 17, 25, 10)", "thing(16, 23, 16, 24, 9)",
                "thing(15, 24, 16, 24, 9)", "thing(15, 23, 17, 24, 9)", "thing(15, 23, 16, 25, 9)", "thing(15, 23, 16, 24, 10)");
        x.due("thing(15, 23, 16, 24, 9)", 1);
    }

    private void tooManyThings(Run x) {
        eightThings(x, 1);
        x.eachRefused(TOO_MANY, "thing(0, 0, 1, 1, 1)", "thing(15, 23, 16, 24, 9)");
        x.refused("thing(0, 0, 1, 1, 10)", BAD_VALUE);
        x.make("undo()");
        x.due("thing(0, 0, 1, 1, 1)", 7);
        x.refused("thing(0, 0, 1, 1, 1)", TOO_MANY);
    }

    private void newSpeed(Run x) {
        x.make("thing(0, 0, 1, 1, 1)", "speed(0, 9)", "pass(1)", "speed(0, 9)");
        // what it had gone beyond a whole column is lost: 0.9 and again 0.9
        x.due("of(0, 1)", 1000);
        x.make("pass(1)");
        x.due("of(0, 1)", 1000);
        x.make("pass(1)");
        x.due("of(0, 1)", 1001);
        // a tenth to the left is a column at once, and each time that it comes anew
        x.make("speed(0, -1)", "pass(1)", "speed(0, -1)", "pass(1)");
        x.due("of(0, 1)", 999);
        x.make("speed(0, 0)");
        x.due("of(0, 1)", 999);
        x.make("pass(99)");
        x.due("of(0, 1)", 999);
        // one that rides comes anew on that on which it rides
        Run y = x.another();
        y.make("thing(0, 0, 1, 1, 1)", "speed(0, 10)", "thing(0, 8, 1, 1, 1)", "ride(1, 0)", "pass(3)", "speed(1, -10)");
        y.due("of(1, 1)", 1011);
        y.due("of(1, 6)", 0);
        y.make("pass(50)");
        y.due("of(1, 1)", 1011);
    }

    private void speedIsChange(Run x) {
        x.make("thing(0, 5, 1, 1, 1)", "speed(0, 9)", "pass(1)");
        x.isChange("speed(0, -40)");
        x.isChange("speed(0, -40)");
    }

    private void speedRange(Run x) {
        x.make("thing(0, 0, 1, 1, 1)");
        x.eachRefused(BAD_VALUE, out("speed(0, ?)", -41, 41));
        x.due("speed(0, -40)", 100);
        x.due("of(0, 5)", 60);
        x.due("speed(0, 40)", 60);
        x.due("of(0, 5)", 140);
    }

    private void previousSpeed(Run x) {
        x.make("thing(0, 0, 1, 1, 1)", "thing(0, 0, 1, 1, 1)");
        x.due("speed(0, 40)", 100);
        x.due("speed(1, -40)", 100);
        x.due("speed(0, -40)", 140);
        x.due("speed(1, 0)", 60);
        x.due("speed(0, -40)", 60);
        x.due("speed(1, 1)", 100);
    }

    /** Of two things, and of eight, the call may not be made with any number but theirs. */
    private void noSuchThing(Run x, String form) {
        x.eachRefused(NO_SUCH, out(form, -6, -1, 0, 1, 7));
        x.make("thing(0, 0, 1, 1, 1)", "thing(0, 0, 1, 1, 1)");
        x.eachRefused(NO_SUCH, out(form, -6, -1, 2, 7, 8));
        Run y = x.another();
        eightThings(y, 1);
        y.eachRefused(NO_SUCH, out(form, -1, 8));
    }

    private void wrongSpeed(Run x) {
        eightThings(x, 1);
        x.eachRefused(BAD_VALUE, out("speed(7, ?)", -41, 41));
        x.eachRefused(NO_SUCH, "speed(8, 41)", "speed(8, -41)");
    }

    private void newRide(Run x) {
        x.make("thing(0, 0, 1, 1, 1)", "speed(0, 10)", "thing(0, 5, 1, 1, 1)", "speed(1, 9)", "pass(1)", "ride(1, 0)");
        // 0.9 is lost
        x.due("of(1, 1)", 1005);
        x.due("of(1, 5)", 109);
        x.make("pass(1)");
        x.due("of(1, 1)", 1006);
        x.make("pass(1)");
        x.due("of(1, 1)", 1008);
        x.make("ride(1, -6)");
        x.due("of(1, 1)", 1008);
        x.make("pass(1)");
        x.due("of(1, 1)", 1008);
        x.make("pass(1)");
        x.due("of(1, 1)", 1009);
    }

    private void rideIsChange(Run x) {
        x.make("thing(0, 0, 1, 1, 1)", "speed(0, 9)", "thing(0, 5, 1, 1, 1)", "pass(1)");
        x.isChange("ride(1, 0)");
        x.isChange("ride(1, 0)");
        Run y = x.another();
        y.make("thing(0, 0, 1, 1, 1)");
        y.isChange("ride(0, -6)");
    }

    private void rideRange(Run x) {
        eightThings(x, 1);
        x.due("ride(7, 6)", NONE);
        x.due("ride(7, 0)", 6);
        x.due("ride(7, -6)", 0);
        x.due("ride(1, 0)", NONE);
        x.due("ride(0, -6)", NONE);
        x.eachRefused(BAD_VALUE, out("ride(7, ?)", -8, -7, -5, -4, -3, -2, -1, 7, 8));
    }

    private void previousRide(Run x) {
        x.make("thing(0, 0, 1, 1, 1)", "thing(0, 0, 1, 1, 1)", "thing(0, 0, 1, 1, 1)");
        x.due("ride(2, -6)", NONE);
        x.due("ride(2, 1)", NONE);
        x.due("ride(2, 1)", 1);
        x.due("ride(2, 0)", 1);
        x.due("ride(2, -6)", 0);
        x.due("ride(2, -6)", NONE);
    }

    private void noRider(Run x) {
        noSuchThing(x, "ride(?, 0)");
        noSuchThing(x.another(), "ride(?, -6)");
        x.eachRefused(NO_SUCH, "ride(2, 2)", "ride(2, 3)", "ride(2, -1)", "ride(-1, -1)");
    }

    private void notLower(Run x) {
        eightThings(x, 1);
        for (int thing = 0; thing < 8; thing++) {
            x.refused(call("ride", thing, thing), BAD_VALUE);
            x.refused(call("ride", thing, thing + 1), BAD_VALUE);
            x.refused(call("ride", thing, -1), BAD_VALUE);
        }
    }

    private void setsFlash(Run x) {
        x.make("thing(0, 0, 1, 1, 1)");
        x.due("seen(0, 0, 0)", 1);
        x.due("flash(0, 1)", 0);
        x.due("count(6)", 0);
        x.due("count(7)", 1);
        x.due("seen(0, 0, 0)", 3);
        x.due("seen(0, 0, 1)", 1);
        x.due("flash(99, 20)", 99);
        x.due("count(6)", 99);
        x.due("count(7)", 20);
        x.due("seen(0, 0, 0)", 1);
        x.due("seen(0, 0, 99)", 3);
    }

    private void flashIsChange(Run x) {
        x.isChange("flash(0, 1)");
        x.isChange("flash(99, 20)");
        x.isChange("flash(99, 20)");
    }

    private void flashIn(Run x) {
        x.eachRefused(BAD_VALUE, out("flash(?, 1)", -1, 100));
        x.make("pass(10)");
        x.due("flash(0, 1)", 10);
        x.due("flash(99, 1)", 109);
        x.eachRefused(BAD_VALUE, out("flash(?, 1)", -10, -1, 100));
    }

    private void flashMany(Run x) {
        x.eachRefused(BAD_VALUE, out("flash(0, ?)", -1, 0, 21));
        x.make("thing(0, 0, 1, 1, 1)", "flash(0, 1)");
        x.due("seen(0, 0, 0)", 3);
        x.due("seen(0, 0, 1)", 1);
        x.make("flash(0, 20)");
        x.due("seen(0, 0, 19)", 3);
        x.due("seen(0, 0, 20)", 1);
        x.eachRefused(BAD_VALUE, out("flash(0, ?)", -1, 0, 21));
    }

    private void timeOfFlash(Run x) {
        x.due("flash(0, 20)", 0);
        x.due("flash(99, 1)", 99);
        x.make("pass(99)");
        x.due("flash(0, 1)", 99);
        x.passTo(9999);
        x.due("flash(0, 1)", 9999);
        x.due("flash(1, 1)", 10000);
        x.due("flash(99, 20)", 10098);
        x.due("count(6)", 10098);
    }

    private void wrongFlash(Run x) {
        x.make("flash(3, 4)");
        x.eachRefused(BAD_VALUE, "flash(-1, 1)", "flash(100, 20)", "flash(0, 0)", "flash(99, 21)", "flash(-1, 0)",
                "flash(100, 21)");
        x.due("count(6)", 3);
        x.due("count(7)", 4);
    }

    private void ticksPass(Run x) {
        x.make("thing(0, 0, 1, 1, 1)", "speed(0, 10)", "flash(5, 1)");
        x.make("pass(1)");
        x.due("count(0)", 1);
        x.due("of(0, 1)", 1001);
        x.due("seen(0, 5, 4)", 3);
        x.make("pass(99)");
        x.due("count(0)", 100);
        x.due("of(0, 1)", 1100);
        x.due("count(2)", 0);
    }

    private void passIsChange(Run x) {
        x.make("thing(0, 0, 1, 1, 1)", "speed(0, 10)");
        x.isChange("pass(1)");
        x.isChange("pass(99)");
    }

    private void passRange(Run x) {
        x.due("pass(1)", 1);
        x.due("pass(99)", 100);
        x.eachRefused(BAD_VALUE, out("pass(?)", -1, 0, 100));
    }

    private void timeThen(Run x) {
        x.due("pass(1)", 1);
        x.due("pass(1)", 2);
        x.due("pass(99)", 101);
        x.passTo(9900);
        x.due("pass(99)", 9999);
    }

    private void wrongPass(Run x) {
        x.eachRefused(BAD_VALUE, out("pass(?)", -99, -1, 0, 100));
        x.passTo(9999);
        x.eachRefused(BAD_VALUE, out("pass(?)", -99, -1, 0, 100));
    }

    private void passBeyond(Run x) {
        x.passTo(9900);
        x.isChange("pass(99)");
        x.eachRefused(NOT_POSSIBLE, "pass(1)", "pass(99)");
        Run y = x.another();
        y.passTo(9901);
        y.refused("pass(99)", NOT_POSSIBLE);
        y.due("pass(97)", 9998);
        y.refused("pass(2)", NOT_POSSIBLE);
        y.due("pass(1)", 9999);
        y.refused("pass(1)", NOT_POSSIBLE);
    }

    private void shootsNow(Run x) {
        x.make("set(0, 0)", "set(1, 1)", "thing(0, 0, 16, 1, 1)", "speed(0, 10)");
        x.due("shoot()", 16);
        x.due("pixel(15, 0)", 1);
        x.make("pass(22)");
        x.due("shoot()", 16);
        x.due("pixel(0, 23)", 1);
        // of the picture before nothing is left
        x.due("pixel(15, 0)", 0);
        x.due("shoot()", 0);
        x.due("count(3)", 0xFFFF);
        x.due("count(2)", 3);
        x.due("count(0)", 25);
    }

    private void shootIsChange(Run x) {
        x.make("thing(0, 0, 16, 1, 1)", "speed(0, 10)");
        x.isChange("shoot()");
        x.isChange("shoot()");
    }

    private void sumOfPixels(Run x) {
        x.due("shoot()", 0);
        x.make("thing(15, 23, 1, 1, 1)", "set(1, 1)");
        x.due("shoot()", 1);
        Run y = x.another();
        eightThings(y, 9);
        y.make("set(0, 0)", "set(1, 20)", "flash(0, 20)");
        y.due("shoot()", 384 * 30 * 3 * 20);
        y.make("set(2, 1)");
        y.due("shoot()", 0);
    }

    private void shootBeyond(Run x) {
        int[][] lineExposeTicks = {{2, 4, 34}, {0, 1, 1}, {9, 20, 155}, {0, 20, 20}, {9, 1, 136}};
        for (int[] one : lineExposeTicks) {
            Run y = x.another();
            y.make(call("set", 0, one[0]), call("set", 1, one[1]), "thing(0, 0, 1, 1, 1)");
            y.passTo(9999 - one[2]);
            y.due("shoot()", one[1]);
            y.due("count(0)", 9999);
            y.refused("shoot()", NOT_POSSIBLE);
            Run z = x.another();
            z.make(call("set", 0, one[0]), call("set", 1, one[1]), "thing(0, 0, 1, 1, 1)");
            z.passTo(9999 - one[2] + 1);
            z.refused("shoot()", NOT_POSSIBLE);
        }
    }
}
