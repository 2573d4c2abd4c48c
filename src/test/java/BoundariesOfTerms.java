/** The conventions, the settings, the things and the pictures. */
final class BoundariesOfTerms extends Boundaries {
    private static final int ALL_COLUMNS = 0xFFFFFF;

    BoundariesOfTerms(Sentences sentences) {
        super(sentences);
    }

    @Override
    void all() {
        section("What it is");
        test("Leaning pictures of things that move while lines are read one by one: things of brightnesses that stand, move, "
                + "or ride on others, a camera that exposes its lines one behind the other, a light that flickers, flashes, "
                + "pictures of lines and columns, lines that are joined in sums, how far a thing leans, bands of light and "
                + "dark, pixels that a camera which exposes all lines at once would tell otherwise, the speed of a line, when a "
                + "flash is in all lines, scenes that are read from texts, undo, and saved states.", this::allOfIt);
        test("An object is used for at most 512 calls after it has been made; what later calls answer is free.",
                this::the512thCall);
        section("Terms");
        conventions();
        settings();
        things();
        pictures();
        test("The constants: `NO_SUCH = -1, BAD_VALUE = -2, BAD_TEXT = -3, TOO_MANY = -4, NOT_POSSIBLE = -5, NONE = -6`: "
                + "Error codes, and NONE: there is none.", this::constants);
        test("`LINE = 0, EXPOSE = 1, FLICKER = 2, JOIN = 3`: Settings.", this::settingNumbers);
        test("---- what if; nothing changes (the bound of the time does not matter).", this::whatIf);
    }

    private void conventions() {
        test("A method that fails returns one of the error codes NO_SUCH (-1), BAD_VALUE (-2), BAD_TEXT (-3), TOO_MANY (-4) "
                + "and NOT_POSSIBLE (-5);", this::errorCodes);
        test("it names its errors in the order in which they are checked, and the first one that applies is returned.",
                this::orderOfErrors);
        test("A call that returns an error changes nothing.", this::refusedCalls);
        test("NONE (-6) is not an error; it is returned only if no error applies.", this::noneIsNoError);
        test("Everything is numbered from 0.", this::numberedFromZero);
        test("Times are told in ticks.", this::ticks);
        test("Divisions are rounded down (also below 0).", this::roundedDown);
        test("Sets of things, lines and columns are bit masks.", this::bitMasks);
    }

    private void settings() {
        test("(In parentheses: range; first value.)", this::firstValues);
        test("LINE (0 to 9; 2): ticks from the beginning of a line to that of the next one;", this::settingLine);
        test("EXPOSE (1 to 20; 4): ticks for which a line is exposed;", this::settingExpose);
        test("FLICKER (0 to 40; 0): ticks of a period of the light, 0 if it is steady;", this::settingFlicker);
        test("JOIN (1 to 4; 1): lines that are joined.", this::settingJoin);
    }

    private void things() {
        test("A picture has 16 lines, 0 (on top) to 15, of 24 columns, 0 to 23.", this::linesAndColumns);
        test("There are up to 8 things, numbered in the order in which they came.", this::upToEightThings);
        test("A thing covers a rectangle: lines from its line on, as many as it is high (1 to 16), and columns from its left "
                + "one on, as many as it is wide (1 to 24);", this::rectangle);
        test("parts of it can be beyond the picture.", this::beyondThePicture);
        test("It has a brightness (1 to 9) and a speed (-40 to 40: tenths of a column in a tick, to the right if above 0).",
                this::brightnessAndSpeed);
        test("A thing stands on the ground, or rides on another one with a lower number.", this::standsOrRides);
        test("Its left column at the time t is that with which it came, and, as it came at the time s, "
                + "speed * (t - s) / 10 (rounded down) more;", this::leftColumn);
        test("and, if it rides, by how much the left column of that other one is more than it truly was at s "
                + "(also if it has come anew since).", this::leftColumnOfRider);
        test("What is to be seen at a line and a column at some time is the sum of the brightnesses of all things that cover "
                + "it then, 30 at most, times the light:", this::thirtyAtMost);
        test("3 while a flash burns;", this::lightOfFlash);
        test("otherwise 0 in the second half of a period of the light (t left over by FLICKER is FLICKER / 2 or more), "
                + "if FLICKER is above 0;", this::darkHalf);
        test("otherwise 1.", this::lightOfOne);
    }

    private void pictures() {
        test("A picture that is begun at the time t exposes the line k from t + k * LINE on for EXPOSE ticks: a pixel is the "
                + "sum of what is to be seen there in these ticks.", this::exposedTicks);
        test("Then the time is t + 15 * LINE + EXPOSE.", this::timeAfterPicture);
        test("(The time is 0 at first.)", x -> x.due("count(0)", 0));
        test("Joined lines are sums: the joined line j is the sum of the lines j * JOIN to j * JOIN + JOIN - 1, as far as "
                + "there are such.", this::joinedLines);
        test("A flash is set for a time and burns for some ticks from then on;", this::burningTicks);
        test("there is one flash at most, the one that was set last.", this::oneFlash);
    }

    /** Each line begins a tick after the one above it, and thing 0 goes a column in a tick: so they lean by a column a line. */
    private void allOfIt(Run x) {
        x.make("set(0, 1)", "set(1, 1)", "thing(0, 4, 16, 2, 5)", "thing(2, 0, 3, 3, 9)", "speed(0, 10)", "ride(1, 0)");
        x.due("shoot()", 16 * 2 * 5 + 3 * 3 * 9);
        x.due("count(0)", 16);
        x.due("ofLine(0, 0)", 0b11 << 4);
        x.due("ofLine(4, 0)", 0b111 << 4 | 0b11 << 8);
        x.due("ofLine(15, 0)", 0b11 << 19);
        x.due("leans(0)", 1000 + 15);
        x.due("leans(1)", 1000 + 2);
        x.due("set(3, 4)", 1);
        x.due("joined(0, 5)", 5 + 5 + 0 + 9);
        x.due("of(0, 1)", 1020);
        // by lines: 0, 2, 7, 7, 6, then 2 in each: thing 0 is at 20 and goes out of the picture, thing 1 is at 16
        x.due("bent()", 2 + 7 + 7 + 6 + 11 * 2);
        x.due("save(0)", 2);
        x.due("flash(3, 2)", 19);
        x.due("flashed()", 1 << 3 | 1 << 4);
        x.due("seen(2, 20, 3)", 3 * 9);
        x.due("bestFlash(20, 1)", 16);
        x.due("bestFlash(20, 0)", 0);
        x.due("set(2, 2)", 0);
        x.due("speed(0, 0)", 110);
        // lines begin at 16, 17, ..: every other one is dark, but for that in which the flash burns at 19
        x.due("shoot()", 8 * 2 * 5 + 2 * 3 * 9 + 2 * (2 * 5 + 3 * 9) + 3 * (2 * 5 + 3 * 9));
        x.due("count(3)", 0b1010101010100010);
        x.due("count(5)", 13);
        x.text("w4;p");
        x.due("carryOut()", 2);
        x.due("count(0)", 16 + 16 + 4 + 16);
        x.due("undo()", 5);
        x.due("count(0)", 16 + 16);
        x.due("restore(0)", 2);
        x.due("count(0)", 16);
        x.due("of(0, 5)", 110);
        x.due("count(3)", 0);
    }

    private void the512thCall(Run x) {
        for (int thing = 0; thing < 8; thing++) {
            x.due(call("thing", thing, thing, 1, 1, 9), thing);
        }
        for (int pair = 0; pair < 251; pair++) {
            x.due("pass(1)", 1);
            x.due("undo()", 5);
        }
        x.due("shoot()", 8 * 9 * 4);
        x.due("count(4)", 36);
    }

    private void errorCodes(Run x) {
        x.refused("undo()", -5);
        x.refused("carryOut()", -3);
        x.refused("set(4, 1)", -2);
        x.refused("speed(0, 0)", -1);
        eightThings(x, 1);
        x.refused("thing(0, 0, 1, 1, 1)", -4);
    }

    private void orderOfErrors(Run x) {
        full(x);
        x.eachRefused(BAD_VALUE, "thing(16, 0, 1, 1, 1)", "thing(-1, 0, 1, 1, 1)", "thing(0, 24, 1, 1, 1)",
                "thing(0, -1, 1, 1, 1)", "thing(0, 0, 17, 1, 1)", "thing(0, 0, 0, 1, 1)", "thing(0, 0, 1, 25, 1)",
                "thing(0, 0, 1, 0, 1)", "thing(0, 0, 1, 1, 10)", "thing(0, 0, 1, 1, 0)");
        x.eachRefused(NO_SUCH, "speed(8, 41)", "speed(8, -41)", "speed(-1, 41)", "ride(8, 8)", "ride(8, -1)", "ride(-1, -1)",
                "of(8, 8)", "of(8, -1)", "of(-1, 8)", "ofLine(16, 3)", "ofLine(16, -1)", "ofLine(-1, 3)",
                "seen(16, 0, 100)", "seen(-1, 0, -1)", "seen(0, 24, 100)", "seen(0, -1, -1)");
        x.eachRefused(BAD_VALUE, "pass(0)", "pass(-1)", "pass(100)", "put(0)", "put(32)", "put(-1)", "restore(2)", "restore(-1)");
    }

    private void refusedCalls(Run x) {
        full(x);
        x.eachRefused(BAD_VALUE, "set(-1, 1)", "set(4, 1)", "set(0, 10)", "set(1, 0)", "set(2, 41)", "set(3, 5)",
                "thing(0, 0, 1, 1, 10)", "speed(7, 41)", "ride(7, 7)", "flash(100, 1)", "flash(0, 21)", "pass(100)",
                "of(0, 8)", "ofLine(0, 3)", "count(14)", "seen(0, 0, 100)", "bestFlash(21, 0)", "bestFlash(1, 2)", "put(32)",
                "save(2)", "restore(2)");
        x.eachRefused(NO_SUCH, "speed(8, 0)", "ride(8, 0)", "of(8, 0)", "pixel(16, 0)", "pixel(0, 24)", "joined(6, 0)",
                "joined(0, 24)", "ofLine(16, 0)", "seen(16, 0, 0)", "seen(0, 24, 0)", "leans(8)");
        x.eachRefused(TOO_MANY, "thing(0, 0, 1, 1, 1)", Calls.put("p"), Calls.put("pppppppp"));
        x.eachRefused(NOT_POSSIBLE, "pass(1)", "pass(99)", "shoot()", "restore(1)");
        Run y = x.another();
        y.make("thing(2, 3, 4, 5, 6)", "speed(0, 7)");
        y.text("w5;p;f1.2;w");
        y.refused("carryOut()", BAD_TEXT);
        Run z = x.another();
        z.text("w5;p");
        z.make("save(1)");
        z.refused("undo()", NOT_POSSIBLE);
    }

    private void noneIsNoError(Run x) {
        x.due("count(6)", NONE);
        x.due("fault()", 0);
        x.text("p");
        x.due("fault()", NONE);
        x.due("ofLine(15, 2)", NONE);
        x.due("ofLine(16, 2)", NO_SUCH);
        x.due("of(0, 6)", NO_SUCH);
        x.due("ride(0, -6)", NO_SUCH);
        x.make("thing(0, 0, 1, 1, 1)");
        x.due("of(0, 6)", NONE);
        x.isChange("ride(0, -6)");
        x.due("of(1, 6)", NO_SUCH);
        // where no number is asked for, NONE is out of range like its neighbours
        x.eachRefused(BAD_VALUE, "set(0, -6)", "set(-6, 1)", "flash(-6, 1)", "flash(0, -6)", "pass(-6)",
                "of(0, -6)", "ofLine(0, -6)", "count(-6)", "seen(0, 0, -6)", "bestFlash(1, -6)", "save(-6)", "restore(-6)");
        x.eachRefused(NO_SUCH, "ride(-6, -6)", "pixel(-6, 0)", "pixel(0, -6)", "joined(-6, 0)", "leans(-6)");
    }

    private void numberedFromZero(Run x) {
        x.due("thing(0, 0, 1, 1, 1)", 0);
        x.due("of(0, 0)", 0);
        x.due("shoot()", 4);
        x.due("pixel(0, 0)", 4);
        x.due("joined(0, 0)", 4);
        x.due("ofLine(0, 0)", 1);
        x.due("seen(0, 0, 0)", 1);
        x.due("leans(0)", 1000);
        x.due("count(0)", 34);
        x.due("set(0, 5)", 2);
        x.due("save(0)", 1);
        x.due("restore(0)", 1);
        x.eachRefused(NO_SUCH, "speed(-1, 0)", "ride(-1, -6)", "of(-1, 0)", "pixel(-1, 0)", "pixel(0, -1)", "joined(-1, 0)",
                "joined(0, -1)", "ofLine(-1, 0)", "seen(-1, 0, 0)", "seen(0, -1, 0)", "leans(-1)");
        x.eachRefused(BAD_VALUE, "set(-1, 1)", "of(0, -1)", "ofLine(0, -1)", "count(-1)", "bestFlash(1, -1)", "save(-1)",
                "restore(-1)");
    }

    private void ticks(Run x) {
        x.due("pass(7)", 7);
        x.due("flash(5, 3)", 12);
        x.due("count(6)", 12);
        x.due("count(7)", 3);
        x.make("set(0, 1)", "set(1, 1)", "shoot()");
        x.due("count(0)", 7 + 15 + 1);
    }

    private void roundedDown(Run x) {
        int[][] speedTicksLeft = {{1, 1, 5}, {1, 9, 5}, {1, 10, 6}, {1, 19, 6}, {1, 20, 7}, {3, 3, 5}, {3, 4, 6}, {3, 6, 6},
            {3, 7, 7}, {39, 1, 8}, {-1, 1, 4}, {-1, 9, 4}, {-1, 10, 4}, {-1, 11, 3}, {-1, 20, 3}, {-1, 21, 2}, {-3, 3, 4},
            {-3, 4, 3}, {-3, 10, 2}, {-9, 1, 4}, {-11, 1, 3}, {-39, 1, 1}, {-39, 2, -3}, {-1, 51, -1}, {-1, 60, -1},
            {-1, 61, -2}};
        for (int[] one : speedTicksLeft) {
            Run y = x.another();
            y.make("thing(0, 5, 1, 1, 1)", call("speed", 0, one[0]), call("pass", one[1]));
            y.due("of(0, 1)", 1000 + one[2]);
        }
        // FLICKER / 2 of 3 is 1
        x.make("thing(0, 0, 1, 1, 1)", "set(2, 3)");
        x.due("seen(0, 0, 0)", 1);
        x.due("seen(0, 0, 1)", 0);
    }

    private void bitMasks(Run x) {
        x.make("thing(0, 0, 1, 1, 1)", "thing(15, 23, 1, 1, 1)", "shoot()");
        x.due("ofLine(0, 0)", 1);
        x.due("ofLine(15, 0)", 1 << 23);
        x.due("ofLine(7, 0)", 0);
        x.due("count(3)", 0x7FFE);
        x.make("flash(0, 1)");
        x.due("flashed()", 1);
        x.make("flash(33, 1)");
        x.due("flashed()", 1 << 15);
        x.make("set(0, 0)", "flash(0, 1)");
        x.due("flashed()", 0xFFFF);
    }

    private void firstValues(Run x) {
        x.due("count(8)", 2);
        x.due("count(9)", 4);
        x.due("count(10)", 0);
        x.due("count(11)", 1);
    }

    private void settingLine(Run x) {
        x.eachRefused(BAD_VALUE, out("set(0, ?)", -1, 10));
        x.due("set(0, 0)", 2);
        x.make("flash(3, 1)");
        x.due("flashed()", 0xFFFF);
        x.make("flash(4, 1)");
        x.due("flashed()", 0);
        x.due("set(0, 9)", 0);
        x.make("flash(8, 1)");
        x.due("flashed()", 0);
        x.make("flash(9, 1)");
        x.due("flashed()", 1 << 1);
        x.make("flash(98, 1)");
        x.due("flashed()", 0);
        x.make("flash(99, 1)");
        x.due("flashed()", 1 << 11);
        x.make("shoot()");
        x.due("count(0)", 9 * 15 + 4);
    }

    private void settingExpose(Run x) {
        x.eachRefused(BAD_VALUE, out("set(1, ?)", -1, 0, 21));
        x.due("set(1, 1)", 4);
        x.make("flash(1, 1)");
        x.due("flashed()", 0);
        x.make("flash(2, 1)");
        x.due("flashed()", 1 << 1);
        x.due("set(1, 20)", 1);
        x.make("flash(19, 1)");
        x.due("flashed()", 0x3FF);
        x.make("flash(20, 1)");
        x.due("flashed()", 0x7FE);
        x.make("flash(49, 1)");
        x.due("flashed()", 1 << 15);
        x.make("flash(50, 1)");
        x.due("flashed()", 0);
    }

    private void settingFlicker(Run x) {
        x.eachRefused(BAD_VALUE, out("set(2, ?)", -1, 41));
        x.make("thing(3, 3, 1, 1, 7)");
        for (int in = 0; in < 100; in += 9) {
            x.due(call("seen", 3, 3, in), 7);
        }
        x.due("set(2, 40)", 0);
        for (int tick : new int[] {0, 19, 40, 59, 80, 99}) {
            x.due(call("seen", 3, 3, tick), 7);
        }
        for (int tick : new int[] {20, 39, 60, 79}) {
            x.due(call("seen", 3, 3, tick), 0);
        }
        x.due("set(2, 1)", 40);
        x.due("seen(3, 3, 0)", 0);
        x.due("seen(3, 3, 1)", 0);
        x.due("set(2, 0)", 1);
        x.due("seen(3, 3, 1)", 7);
    }

    private void settingJoin(Run x) {
        x.eachRefused(BAD_VALUE, out("set(3, ?)", -1, 0, 5));
        x.make("thing(0, 0, 16, 1, 1)", "shoot()");
        x.due("joined(0, 0)", 4);
        x.due("set(3, 4)", 1);
        x.due("joined(0, 0)", 16);
        x.due("set(3, 1)", 4);
        x.due("joined(15, 0)", 4);
    }

    private void linesAndColumns(Run x) {
        x.make("thing(0, 0, 16, 24, 1)");
        x.due("shoot()", 16 * 24 * 4);
        for (int line = 0; line < 16; line++) {
            x.due(call("ofLine", line, 0), ALL_COLUMNS);
            x.due(call("pixel", line, 0), 4);
            x.due(call("pixel", line, 23), 4);
        }
        x.eachRefused(NO_SUCH, "pixel(-1, 0)", "pixel(16, 0)", "pixel(0, -1)", "pixel(0, 24)", "pixel(15, 24)", "pixel(16, 23)");
        // the line on top is the first one that is exposed
        x.make("flash(0, 1)");
        x.due("flashed()", 1);
    }

    private void upToEightThings(Run x) {
        x.due("count(1)", 0);
        for (int thing = 0; thing < 8; thing++) {
            x.due(call("thing", thing, thing, 1, 1, 1 + thing), thing);
            x.due("count(1)", thing + 1);
        }
        for (int thing = 0; thing < 8; thing++) {
            x.due(call("of", thing, 4), 1 + thing);
        }
        x.refused("thing(0, 0, 1, 1, 1)", TOO_MANY);
        x.text("g0,0,1,1*1");
        x.due("carryOut()", 0);
        x.due("count(1)", 8);
        x.make("undo()");
        x.due("undo()", 4);
        x.due("of(7, 4)", NO_SUCH);
        x.due("thing(0, 0, 1, 1, 9)", 7);
        x.refused("thing(0, 0, 1, 1, 9)", TOO_MANY);
    }

    private void rectangle(Run x) {
        int[][] rectangles = {{0, 0, 1, 1}, {15, 0, 1, 1}, {0, 23, 1, 1}, {15, 23, 1, 1}, {0, 0, 16, 24}, {0, 0, 1, 24},
            {0, 0, 16, 1}, {15, 0, 1, 24}, {0, 23, 16, 1}, {7, 11, 2, 3}, {1, 1, 14, 22}, {0, 0, 15, 23}, {1, 1, 15, 23}};
        for (int[] one : rectangles) {
            Run y = x.another();
            y.make(call("thing", one[0], one[1], one[2], one[3], 5));
            y.due("shoot()", one[2] * one[3] * 20);
            int columns = ((1 << one[3]) - 1) << one[1];
            for (int line = 0; line < 16; line++) {
                y.due(call("ofLine", line, 0), line >= one[0] && line < one[0] + one[2] ? columns : 0);
            }
        }
        x.eachRefused(BAD_VALUE, out("thing(0, 0, ?, 1, 1)", 0, 17));
        x.eachRefused(BAD_VALUE, out("thing(0, 0, 1, ?, 1)", 0, 25));
    }

    private void beyondThePicture(Run x) {
        x.make("thing(15, 23, 16, 24, 9)");
        x.due("shoot()", 36);
        x.due("ofLine(15, 0)", 1 << 23);
        x.due("count(3)", 0x7FFF);
        Run y = x.another();
        y.make("thing(0, 0, 16, 24, 5)", "speed(0, -10)");
        seenInLine(y, 23, 5, 0, 0);
        seenInLine(y, 24, 0, 0, 0);
        y.make("speed(0, 10)");
        seenInLine(y, 1, 0, 5, 5);
        seenInLine(y, 23, 0, 0, 5);
        seenInLine(y, 24, 0, 0, 0);
        // far beyond, and back again
        y.make("speed(0, 40)");
        y.passTo(4000);
        y.due("shoot()", 0);
        y.due("bent()", 0);
        y.make("speed(0, -40)");
        y.passTo(2 * 4034);
        y.make("speed(0, 0)");
        y.due("shoot()", 384 * 5 * 4);
    }

    private void seenInLine(Run x, int in, int first, int second, int last) {
        x.due(call("seen", 0, 0, in), first);
        x.due(call("seen", 0, 1, in), second);
        x.due(call("seen", 0, 23, in), last);
    }

    private void brightnessAndSpeed(Run x) {
        x.eachRefused(BAD_VALUE, out("thing(0, 0, 1, 1, ?)", -1, 0, 10));
        x.make("thing(0, 10, 1, 1, 1)", "thing(1, 10, 1, 1, 9)");
        x.due("seen(0, 10, 0)", 1);
        x.due("seen(1, 10, 0)", 9);
        x.eachRefused(BAD_VALUE, out("speed(0, ?)", -41, 41));
        x.make("speed(0, 40)", "speed(1, -40)", "pass(1)");
        x.due("of(0, 1)", 1014);
        x.due("of(1, 1)", 1006);
        x.make("speed(0, 0)", "speed(1, 1)", "pass(10)");
        x.due("of(0, 1)", 1014);
        x.due("of(1, 1)", 1007);
    }

    private void standsOrRides(Run x) {
        x.make("thing(0, 0, 1, 1, 1)");
        x.due("of(0, 6)", NONE);
        x.eachRefused(BAD_VALUE, out("ride(0, ?)", -7, -5, -4, -3, -2, -1, 0, 1));
        for (int thing = 1; thing < 8; thing++) {
            x.make("thing(0, 0, 1, 1, 1)");
            x.due(call("ride", thing, thing - 1), NONE);
            x.due(call("of", thing, 6), thing - 1);
            x.refused(call("ride", thing, thing), BAD_VALUE);
            x.refused(call("ride", thing, thing + 1), BAD_VALUE);
        }
        x.due("ride(7, 0)", 6);
        x.due("ride(7, -6)", 0);
        x.due("of(7, 6)", NONE);
    }

    private void leftColumn(Run x) {
        x.make("thing(0, 23, 1, 1, 1)", "thing(0, 0, 1, 1, 1)", "speed(0, 40)", "speed(1, -40)");
        x.due("of(0, 1)", 1023);
        x.due("of(1, 1)", 1000);
        x.make("pass(1)");
        x.due("of(0, 1)", 1027);
        x.due("of(1, 1)", 996);
        x.passTo(9999);
        x.due("of(0, 1)", 1000 + 23 + 39996);
        x.due("of(1, 1)", 1000 - 39996);
        // that with which it came, at the time at which it came
        Run y = x.another();
        y.make("pass(7)", "thing(0, 9, 1, 1, 1)", "pass(50)", "speed(0, 10)");
        y.due("of(0, 1)", 1009);
        y.make("pass(1)");
        y.due("of(0, 1)", 1010);
    }

    private void leftColumnOfRider(Run x) {
        x.make("thing(0, 0, 1, 1, 1)", "speed(0, 10)", "thing(0, 5, 1, 1, 1)", "pass(3)", "ride(1, 0)");
        x.due("of(1, 1)", 1005);
        x.make("pass(2)", "speed(0, 0)");
        x.due("of(1, 1)", 1007);
        x.make("pass(4)");
        x.due("of(1, 1)", 1007);
        x.make("speed(0, -10)");
        x.due("of(1, 1)", 1007);
        x.make("pass(5)");
        x.due("of(0, 1)", 1000);
        x.due("of(1, 1)", 1002);
        longestRide(x.another());
        // what it rides on counts in whole columns: from 0.9 to 1.8 it is one
        Run y = x.another();
        y.make("thing(0, 0, 1, 1, 1)", "speed(0, 9)", "thing(0, 5, 1, 1, 1)", "pass(1)", "ride(1, 0)", "pass(1)");
        y.due("of(1, 1)", 1006);
    }

    private void longestRide(Run x) {
        for (int thing = 0; thing < 8; thing++) {
            x.make(call("thing", 0, thing, 1, 1, 1), call("speed", thing, 40));
            if (thing > 0) {
                x.make(call("ride", thing, thing - 1));
            }
        }
        x.make("pass(1)");
        x.due("of(7, 1)", 1007 + 8 * 4);
        x.passTo(9999);
        x.due("of(7, 1)", 1007 + 8 * 39996);
        x.due("of(0, 1)", 1000 + 39996);
    }

    private void thirtyAtMost(Run x) {
        x.due("seen(0, 0, 0)", 0);
        x.make("thing(0, 0, 1, 5, 9)", "thing(0, 0, 1, 5, 9)", "thing(0, 0, 1, 4, 9)", "thing(0, 0, 1, 3, 2)",
                "thing(0, 0, 1, 2, 1)", "thing(0, 0, 1, 1, 1)", "flash(1, 1)");
        int[] seen = {30, 30, 29, 27, 18, 0};
        for (int column = 0; column < 6; column++) {
            x.due(call("seen", 0, column, 0), seen[column]);
            x.due(call("seen", 0, column, 1), 3 * seen[column]);
        }
        Run y = x.another();
        eightThings(y, 9);
        y.due("seen(15, 23, 0)", 30);
        y.due("seen(0, 0, 99)", 30);
        y.make("flash(99, 1)");
        y.due("seen(0, 0, 99)", 90);
        // no more than 30 in each tick, not in all of them
        y.make("set(1, 20)");
        y.due("shoot()", 384 * 30 * 20);
    }

    private void lightOfFlash(Run x) {
        x.make("thing(0, 0, 1, 1, 5)", "flash(10, 1)");
        lights(x, 9, 5, 15, 5);
        x.make("flash(10, 20)");
        lights(x, 9, 5, 15, 15);
        lights(x, 28, 15, 15, 5);
        // also in the dark half of a period, and only one way or the other
        x.make("set(2, 1)");
        lights(x, 9, 0, 15, 15);
        lights(x, 28, 15, 15, 0);
        x.make("flash(0, 1)");
        lights(x, 0, 15, 0, 0);
    }

    private void lights(Run x, int in, int first, int second, int third) {
        x.due(call("seen", 0, 0, in), first);
        x.due(call("seen", 0, 0, in + 1), second);
        x.due(call("seen", 0, 0, in + 2), third);
    }

    private void darkHalf(Run x) {
        int[][] flickerFirstDark = {{2, 1}, {3, 1}, {4, 2}, {5, 2}, {6, 3}, {7, 3}, {38, 19}, {39, 19}, {40, 20}};
        for (int[] one : flickerFirstDark) {
            Run y = x.another();
            y.make("thing(0, 0, 1, 1, 1)", call("set", 2, one[0]));
            for (int period = 0; period < 2; period++) {
                int begin = period * one[0];
                y.due(call("seen", 0, 0, begin), 1);
                y.due(call("seen", 0, 0, begin + one[1] - 1), 1);
                y.due(call("seen", 0, 0, begin + one[1]), 0);
                y.due(call("seen", 0, 0, begin + one[0] - 1), 0);
            }
        }
        // periods begin at the time 0, not when the light was set
        x.make("thing(0, 0, 1, 1, 1)", "pass(7)", "set(2, 10)");
        x.due("seen(0, 0, 0)", 0);
        x.due("seen(0, 0, 2)", 0);
        x.due("seen(0, 0, 3)", 1);
        x.due("seen(0, 0, 7)", 1);
        x.due("seen(0, 0, 8)", 0);
        x.passTo(9999);
        x.due("seen(0, 0, 0)", 0);
        x.due("seen(0, 0, 1)", 1);
        x.make("set(2, 1)");
        x.due("seen(0, 0, 0)", 0);
        x.due("seen(0, 0, 1)", 0);
    }

    private void lightOfOne(Run x) {
        x.make("thing(0, 0, 1, 1, 9)", "flash(3, 2)");
        x.due("seen(0, 0, 0)", 9);
        x.due("seen(0, 0, 2)", 9);
        x.due("seen(0, 0, 5)", 9);
        x.make("set(2, 40)");
        x.due("seen(0, 0, 0)", 9);
        x.due("seen(0, 0, 19)", 9);
    }

    private void exposedTicks(Run x) {
        int[][] lineExpose = {{2, 4}, {0, 1}, {0, 20}, {6, 1}, {5, 20}, {1, 1}, {3, 3}};
        for (int[] one : lineExpose) {
            for (int line = 0; line < 16; line += line == 1 ? 14 : 1) {
                int begin = line * one[0];
                int end = begin + one[1];
                exposes(x.another(), one[0], one[1], line, begin - 1, false);
                exposes(x.another(), one[0], one[1], line, begin, true);
                exposes(x.another(), one[0], one[1], line, end - 1, true);
                exposes(x.another(), one[0], one[1], line, end, false);
            }
        }
    }

    /** The light is 1, and 3 in one tick: so that tick can be seen in each line that is exposed then. */
    private void exposes(Run x, int lineTicks, int expose, int line, int tick, boolean exposed) {
        if (tick < 0 || tick > 99) {
            return;
        }
        x.make("thing(0, 0, 16, 24, 1)", call("set", 0, lineTicks), call("set", 1, expose), "pass(11)", call("flash", tick, 1),
                "shoot()");
        x.due(call("pixel", line, 23), exposed ? expose + 2 : expose);
    }

    private void timeAfterPicture(Run x) {
        int[][] lineExposeTicks = {{2, 4, 34}, {0, 1, 1}, {0, 20, 20}, {9, 1, 136}, {9, 20, 155}, {1, 1, 16}};
        for (int[] one : lineExposeTicks) {
            Run y = x.another();
            y.make(call("set", 0, one[0]), call("set", 1, one[1]), "shoot()");
            y.due("count(0)", one[2]);
            y.make("pass(5)", "shoot()");
            y.due("count(0)", 2 * one[2] + 5);
        }
    }

    private void joinedLines(Run x) {
        // each thing goes from its line down to the lowest one
        int[][] lineBrightness = {{0, 1}, {1, 1}, {2, 2}, {4, 4}, {8, 8}};
        int[][] sums = {{1, 2, 4, 4, 8, 8, 8, 8, 16, 16, 16, 16, 16, 16, 16, 16}, {3, 8, 16, 16, 32, 32, 32, 32},
            {7, 20, 32, 48, 48, 16}, {11, 32, 64, 64}};
        x.make("set(0, 0)", "set(1, 1)");
        for (int[] one : lineBrightness) {
            x.make(call("thing", one[0], 5, 16, 1, one[1]));
        }
        x.make("shoot()");
        for (int join = 1; join <= 4; join++) {
            x.make(call("set", 3, join));
            int many = sums[join - 1].length;
            for (int line = 0; line < many; line++) {
                x.due(call("joined", line, 5), sums[join - 1][line]);
            }
            x.refused(call("joined", many, 5), NO_SUCH);
        }
    }

    private void burningTicks(Run x) {
        int[][] inMany = {{0, 1}, {0, 20}, {1, 1}, {1, 20}, {50, 7}, {79, 20}, {98, 1}};
        for (int[] one : inMany) {
            Run y = x.another();
            y.make("pass(3)", "thing(0, 0, 1, 1, 1)", call("flash", one[0], one[1]));
            y.due("count(6)", 3 + one[0]);
            if (one[0] > 0) {
                y.due(call("seen", 0, 0, one[0] - 1), 1);
            }
            y.due(call("seen", 0, 0, one[0]), 3);
            y.due(call("seen", 0, 0, one[0] + one[1] - 1), 3);
            y.due(call("seen", 0, 0, one[0] + one[1]), 1);
        }
        // it stays at its time while the time goes on
        x.make("thing(0, 0, 1, 1, 1)", "flash(10, 2)", "pass(10)");
        x.due("seen(0, 0, 0)", 3);
        x.make("pass(1)");
        x.due("seen(0, 0, 0)", 3);
        x.make("pass(1)");
        x.due("seen(0, 0, 0)", 1);
    }

    private void oneFlash(Run x) {
        x.make("thing(0, 0, 1, 1, 1)", "flash(0, 20)");
        x.due("seen(0, 0, 0)", 3);
        x.make("flash(50, 2)");
        x.due("seen(0, 0, 0)", 1);
        x.due("seen(0, 0, 19)", 1);
        x.due("seen(0, 0, 50)", 3);
        x.make("flash(0, 1)");
        x.due("seen(0, 0, 0)", 3);
        x.due("seen(0, 0, 1)", 1);
        x.due("seen(0, 0, 50)", 1);
        x.due("count(6)", 0);
        x.due("count(7)", 1);
    }

    private void constants(Run x) {
        long[] there = {LeaningLines.NO_SUCH, LeaningLines.BAD_VALUE, LeaningLines.BAD_TEXT, LeaningLines.TOO_MANY,
            LeaningLines.NOT_POSSIBLE, LeaningLines.NONE};
        for (int one = 0; one < there.length; one++) {
            x.equal("constant " + one, there[one], -1 - one);
        }
    }

    private void settingNumbers(Run x) {
        long[] there = {LeaningLines.LINE, LeaningLines.EXPOSE, LeaningLines.FLICKER, LeaningLines.JOIN};
        for (int one = 0; one < there.length; one++) {
            x.equal("setting " + one, there[one], one);
        }
        x.due("set(0, 9)", 2);
        x.due("set(1, 20)", 4);
        x.due("set(2, 40)", 0);
        x.due("set(3, 4)", 1);
        x.due("set(0, 0)", 9);
        x.due("set(1, 1)", 20);
        x.due("set(2, 0)", 40);
        x.due("set(3, 1)", 4);
        x.refused("set(4, 1)", BAD_VALUE);
    }

    private void whatIf(Run x) {
        x.make("thing(0, 0, 16, 1, 1)", "speed(0, 1)");
        x.passTo(9999);
        x.make("speed(0, 0)", "thing(3, 4, 16, 2, 5)", "speed(1, 10)", "set(0, 9)", "flash(99, 20)");
        // it burns 99 to 118 ticks from now; lines 11 to 13 begin in 99, 108 and 117
        x.due("flashed()", 1 << 11 | 1 << 12 | 1 << 13);
        x.due("leans(1)", 1000 + 9 * 15);
        x.due("leans(0)", 1000);
        x.due("seen(3, 4, 0)", 5);
        x.due("seen(3, 23, 19)", 5);
        x.due("seen(3, 4, 99)", 0);
        x.due("bestFlash(1, 0)", 0);
        x.due("bestFlash(20, 1)", 3);
        // 5 columns are seen of it from now on; as line 3 begins it is at column 31
        x.due("bent()", 13 * 5);
        for (String call : new String[] {"flashed()", "leans(1)", "seen(3, 4, 99)", "bestFlash(20, 0)", "bestFlash(20, 1)",
            "bent()"}) {
            x.changesNothing(call);
        }
        Run y = x.another();
        full(y);
        for (String call : new String[] {"flashed()", "leans(7)", "seen(15, 23, 99)", "bestFlash(1, 0)", "bestFlash(1, 1)",
            "bent()"}) {
            y.changesNothing(call);
        }
    }
}
