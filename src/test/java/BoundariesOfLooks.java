/** Promises 9 to 18: what there is, and what if. */
final class BoundariesOfLooks extends Boundaries {
    private static final int ALL_LINES = 0xFFFF, ALL_COLUMNS = 0xFFFFFF;

    BoundariesOfLooks(Sentences sentences) {
        super(sentences);
    }

    @Override
    void all() {
        of();
        pixel();
        joined();
        ofLine();
        count();
        seen();
        leans();
        bent();
        flashed();
        bestFlash();
    }

    private void of() {
        section("Promise 9: of");
        test("Returns something about a thing. - `what`: 0 its line,", this::itsLine);
        test("1 its left column now, and 1000,", this::itsLeft);
        test("2 its height,", x -> itsPart(x, 2));
        test("3 its width,", x -> itsPart(x, 3));
        test("4 its brightness,", x -> itsPart(x, 4));
        test("5 its speed and 100,", this::itsSpeed);
        test("6 the thing on which it rides (NONE),", this::itsRide);
        test("7 the tenths of columns in a tick by which it goes, with all on which it rides, and 1000", this::itsTenths);
        test("Returns the number; NO_SUCH if there is no such thing;", this::ofNoThing);
        test("BAD_VALUE if what is out of range.", this::ofWrongWhat);
    }

    private void pixel() {
        section("Promise 10: pixel");
        test("Returns a pixel of the latest picture.", this::latestPicture);
        test("Returns the pixel;", this::darkestAndBrightest);
        test("NO_SUCH if there is no such line or column.", x -> noPlace(x, "pixel(?, 0)", "pixel(0, ?)", 16));
    }

    private void joined() {
        section("Promise 11: joined");
        test("Returns a pixel of the latest picture with its lines joined, by JOIN as it is now.", this::joinedAsNow);
        test("- `line`: a joined line, 0 on", this::joinedLines);
        test("Returns the sum;", this::joinedSums);
        test("NO_SUCH if there is no such line or column.", this::noJoinedPlace);
    }

    private void ofLine() {
        section("Promise 12: ofLine");
        test("Returns something about a line of the latest picture.", this::aboutLine);
        test("- `what`: 0 the columns that are not dark, as a set,", this::columnsOfLine);
        test("1 the sum of its pixels,", this::sumOfLine);
        test("2 the leftmost column that is not dark (NONE)", this::leftmostOfLine);
        test("Returns the number; NO_SUCH if there is no such line;", this::noLine);
        test("BAD_VALUE if what is out of range.", this::ofLineWrongWhat);
    }

    private void count() {
        section("Promise 13: count");
        test("Returns a number. - `what`: 0 the time,", this::countTime);
        test("1 things,", this::countThings);
        test("2 pictures so far,", this::countPictures);
        test("3 lines of the latest picture that are dark, as a set,", this::countDark);
        test("4 its brightest pixel,", this::countBrightest);
        test("5 bands: how many times a line of it that is dark is next below one that is not, or the other way round,",
                this::countBands);
        test("6 the time at which the flash burns (NONE if none was set),", this::countFlashTime);
        test("7 for how many ticks (0 if none was set),", this::countFlashTicks);
        test("8 to 11 the settings,", this::countSettings);
        test("12 the length of the pad,", this::countPad);
        test("13 how many changes can be undone", this::countChanges);
        test("Returns the number; BAD_VALUE if what is out of range.", this::countWrongWhat);
    }

    private void seen() {
        section("Promise 14: seen");
        test("Returns what is to be seen at a line and a column in some ticks.", this::seenLater);
        test("- `in`: 0 to 99", this::seenIn);
        test("Returns it; NO_SUCH if there is no such line or column;", x -> noPlace(x, "seen(?, 0, 0)", "seen(0, ?, 99)", 16));
        test("BAD_VALUE if in is out of range.", this::seenWrongIn);
    }

    private void leans() {
        section("Promise 15: leans");
        test("Tells how far a thing would lean in a picture that is shot now: its left column as its lowest line begins, less "
                + "that as its top line does", this::leaning);
        test("(lines beyond the picture are exposed as if there were such),", this::leaningBeyond);
        test("and 1000.", this::leaningExtremes);
        test("Returns the number; NO_SUCH if there is no such thing.", this::leansNoThing);
    }

    private void bent() {
        section("Promise 16: bent");
        test("Tells how many pixels of a picture that is shot now would be told otherwise if all lines were exposed at once, "
                + "from now on.", this::bending);
        test("Returns how many.", this::bendingExtremes);
    }

    private void flashed() {
        section("Promise 17: flashed");
        test("Returns the lines of a picture that is shot now in which the flash would burn for some tick.", this::flashing);
        test("Returns the lines, as a set.", this::flashingSets);
    }

    private void bestFlash() {
        section("Promise 18: bestFlash");
        test("Finds in how many ticks, 0 to 99, the flash should be set, burning for some ticks, so that it burns in the most "
                + "lines of a picture that is shot now, of several the least number.", this::bestIn);
        test("- `many`: 1 to 20: for how many ticks it burns", this::bestMany);
        test("- `what`: 0 in how many ticks, 1 how many lines", this::bestWhat);
        test("Returns the number; BAD_VALUE if many or what is out of range.", this::bestWrong);
    }

    private void itsLine(Run x) {
        x.make("thing(0, 5, 4, 5, 6)", "thing(15, 5, 4, 5, 6)", "thing(8, 5, 4, 5, 6)", "pass(9)");
        x.due("of(0, 0)", 0);
        x.due("of(1, 0)", 15);
        x.due("of(2, 0)", 8);
        x.changesNothing("of(1, 0)");
    }

    private void itsLeft(Run x) {
        x.make("thing(0, 0, 1, 1, 1)", "thing(0, 23, 1, 1, 1)");
        x.due("of(0, 1)", 1000);
        x.due("of(1, 1)", 1023);
        x.make("speed(0, -1)", "speed(1, 1)", "pass(1)");
        x.due("of(0, 1)", 999);
        x.due("of(1, 1)", 1023);
        x.make("speed(0, -40)", "speed(1, 40)");
        // 249 and 250 ticks later it is 996 and 1000 columns farther: also below 0 the answer is the number
        x.make("pass(99)", "pass(99)", "pass(51)");
        x.due("of(0, 1)", 999 - 996);
        x.make("pass(1)");
        x.due("of(0, 1)", -1);
        x.due("of(1, 1)", 1023 + 1000);
        x.passTo(9999);
        x.due("of(0, 1)", 999 - 4 * 9998);
        x.due("of(1, 1)", 1023 + 4 * 9998);
        x.changesNothing("of(1, 1)");
    }

    private void itsPart(Run x, int what) {
        int[] least = {0, 0, 1, 1, 1};
        int[] most = {15, 23, 16, 24, 9};
        x.make(call("thing", 0, 0, 1, 1, 1), call("thing", 15, 23, 16, 24, 9), call("thing", 9, 2, 3, 4, 5), "ride(1, 0)",
                "speed(1, 33)");
        x.due(call("of", 0, what), least[what]);
        x.due(call("of", 1, what), most[what]);
        x.due(call("of", 2, what), what + 1);
        x.changesNothing(call("of", 2, what));
    }

    private void itsSpeed(Run x) {
        x.make("thing(0, 0, 1, 1, 1)", "thing(0, 0, 1, 1, 1)", "thing(0, 0, 1, 1, 1)");
        x.make("speed(0, -40)", "speed(1, 40)", "ride(2, 1)");
        x.due("of(0, 5)", 60);
        x.due("of(1, 5)", 140);
        // without that on which it rides
        x.due("of(2, 5)", 100);
        x.make("speed(1, -1)");
        x.due("of(1, 5)", 99);
        x.changesNothing("of(1, 5)");
    }

    private void itsRide(Run x) {
        eightThings(x, 1);
        x.make("ride(7, 6)", "ride(1, 0)");
        x.due("of(0, 6)", NONE);
        x.due("of(1, 6)", 0);
        x.due("of(6, 6)", NONE);
        x.due("of(7, 6)", 6);
        x.make("ride(7, -6)");
        x.due("of(7, 6)", NONE);
    }

    private void itsTenths(Run x) {
        for (int thing = 0; thing < 8; thing++) {
            x.make("thing(0, 0, 1, 1, 1)", call("speed", thing, 40));
            x.due(call("of", thing, 7), 1040);
            x.make(call("ride", thing, thing == 0 ? NONE : thing - 1));
            x.due(call("of", thing, 7), 1000 + 40 * (thing + 1));
        }
        for (int thing = 0; thing < 8; thing++) {
            x.make(call("speed", thing, -40));
        }
        x.due("of(7, 7)", 680);
        x.due("of(0, 7)", 960);
        x.make("speed(3, 0)");
        x.due("of(7, 7)", 720);
        x.make("ride(4, -6)");
        x.due("of(7, 7)", 840);
        x.changesNothing("of(7, 7)");
    }

    private void ofNoThing(Run x) {
        for (int what = 0; what < 8; what++) {
            x.refused(call("of", 0, what), NO_SUCH);
        }
        x.eachRefused(NO_SUCH, "of(0, 8)", "of(0, -1)");
        x.make("thing(0, 0, 1, 1, 1)");
        x.eachRefused(NO_SUCH, out("of(?, 0)", -6, -1, 1, 7, 8));
        Run y = x.another();
        eightThings(y, 1);
        y.eachRefused(NO_SUCH, out("of(?, 7)", -1, 8));
        y.eachRefused(NO_SUCH, "of(8, 8)", "of(-1, -1)");
    }

    private void ofWrongWhat(Run x) {
        eightThings(x, 1);
        x.eachRefused(BAD_VALUE, out("of(0, ?)", -6, -1, 8));
        x.eachRefused(BAD_VALUE, out("of(7, ?)", -1, 8));
    }

    private void latestPicture(Run x) {
        x.make("thing(0, 0, 1, 1, 1)", "thing(0, 23, 1, 1, 2)", "thing(15, 0, 1, 1, 3)", "thing(15, 23, 1, 1, 4)");
        corners(x, 0, 0, 0, 0);
        x.make("shoot()");
        corners(x, 4, 8, 12, 16);
        x.make("speed(0, 40)", "speed(3, 40)", "pass(99)");
        corners(x, 4, 8, 12, 16);
        x.make("shoot()");
        corners(x, 0, 8, 12, 0);
        x.make("undo()");
        corners(x, 4, 8, 12, 16);
        x.changesNothing("pixel(15, 23)");
    }

    private void corners(Run x, int first, int second, int third, int fourth) {
        x.due("pixel(0, 0)", first);
        x.due("pixel(0, 23)", second);
        x.due("pixel(15, 0)", third);
        x.due("pixel(15, 23)", fourth);
    }

    private void darkestAndBrightest(Run x) {
        x.make("thing(0, 0, 16, 23, 9)", "thing(0, 0, 16, 23, 9)", "thing(0, 0, 16, 23, 9)", "thing(0, 0, 16, 23, 9)");
        x.make("set(0, 0)", "set(1, 20)", "flash(0, 20)", "shoot()");
        x.due("pixel(15, 22)", 30 * 3 * 20);
        x.due("pixel(15, 23)", 0);
        Run y = x.another();
        y.make("thing(15, 23, 1, 1, 1)", "set(1, 1)", "shoot()");
        y.due("pixel(15, 23)", 1);
    }

    /** There are lines 0 to lines - 1 and columns 0 to 23. */
    private void noPlace(Run x, String ofLine, String ofColumn, int lines) {
        x.make("thing(0, 0, 16, 24, 1)", "shoot()");
        x.eachRefused(NO_SUCH, out(ofLine, -6, -1, lines));
        x.eachRefused(NO_SUCH, out(ofColumn, -6, -1, 24));
        for (String call : each(ofLine, 0, lines - 1)) {
            x.changesNothing(call);
        }
        for (String call : each(ofColumn, 0, 23)) {
            x.changesNothing(call);
        }
    }

    private void joinedAsNow(Run x) {
        x.make("thing(0, 5, 16, 1, 1)", "set(3, 2)");
        x.due("joined(0, 5)", 0);
        x.make("shoot()");
        int[] sums = {4, 8, 12, 16};
        for (int join = 4; join >= 1; join--) {
            x.make(call("set", 3, join));
            x.due("joined(0, 5)", sums[join - 1]);
            x.due("joined(0, 4)", 0);
            x.due("pixel(1, 5)", 4);
        }
        x.make("thing(0, 5, 16, 1, 1)", "shoot()");
        x.due("joined(0, 5)", 8);
        x.make("set(3, 3)");
        x.due("joined(4, 5)", 24);
        x.changesNothing("joined(5, 5)");
    }

    private void joinedLines(Run x) {
        int[] lines = {16, 8, 6, 4};
        x.make("thing(0, 0, 16, 24, 1)", "shoot()");
        for (int join = 1; join <= 4; join++) {
            x.make(call("set", 3, join));
            x.due("joined(0, 23)", 4 * join);
            x.due(call("joined", lines[join - 1] - 1, 0), join == 3 ? 4 : 4 * join);
            x.refused(call("joined", lines[join - 1], 0), NO_SUCH);
            x.refused("joined(-1, 0)", NO_SUCH);
        }
    }

    private void joinedSums(Run x) {
        x.make("thing(15, 0, 1, 1, 3)", "thing(14, 0, 1, 1, 5)", "set(1, 1)", "set(3, 3)", "shoot()");
        // line 15 is alone in the last one of 6
        x.due("joined(5, 0)", 3);
        x.due("joined(4, 0)", 5);
        x.due("joined(3, 0)", 0);
        Run y = x.another();
        eightThings(y, 9);
        y.make("set(0, 0)", "set(1, 20)", "set(3, 4)", "flash(0, 20)", "shoot()");
        y.due("joined(3, 23)", 4 * 30 * 3 * 20);
    }

    private void noJoinedPlace(Run x) {
        int[] lines = {16, 8, 6, 4};
        for (int join = 1; join <= 4; join++) {
            Run y = x.another();
            y.make(call("set", 3, join));
            noPlace(y, "joined(?, 0)", "joined(0, ?)", lines[join - 1]);
            y.refused("joined(15, 24)", NO_SUCH);
            y.refused("joined(16, 23)", NO_SUCH);
            // numbers which times JOIN, cut to 32 bits, would be those of a line
            y.eachRefused(NO_SUCH, "joined(1073741824, 0)", "joined(-2147483648, 0)", "joined(-1073741824, 0)",
                    "joined(1431655766, 0)", "joined(-1431655765, 0)", "joined(-1431655764, 0)", "joined(1073741825, 0)");
        }
    }

    private void aboutLine(Run x) {
        x.make("thing(0, 0, 1, 1, 1)", "thing(15, 23, 1, 1, 2)");
        line(x, 0, 0, 0, NONE);
        x.make("shoot()");
        line(x, 0, 1, 4, 0);
        line(x, 15, 1 << 23, 8, 23);
        line(x, 1, 0, 0, NONE);
        line(x, 14, 0, 0, NONE);
        x.make("speed(0, 40)", "pass(99)");
        line(x, 0, 1, 4, 0);
        x.make("shoot()");
        line(x, 0, 0, 0, NONE);
        line(x, 15, 1 << 23, 8, 23);
        x.changesNothing("ofLine(15, 0)");
        x.changesNothing("ofLine(0, 1)");
        x.changesNothing("ofLine(15, 2)");
    }

    private void line(Run x, int line, int columns, int sum, int leftmost) {
        x.due(call("ofLine", line, 0), columns);
        x.due(call("ofLine", line, 1), sum);
        x.due(call("ofLine", line, 2), leftmost);
    }

    private void columnsOfLine(Run x) {
        x.make("thing(0, 0, 1, 24, 1)", "thing(1, 0, 1, 1, 1)", "thing(2, 23, 1, 24, 1)", "thing(3, 1, 1, 22, 1)",
                "thing(4, 0, 1, 1, 9)", "thing(4, 23, 1, 1, 1)", "thing(4, 11, 1, 2, 1)", "shoot()");
        x.due("ofLine(0, 0)", ALL_COLUMNS);
        x.due("ofLine(1, 0)", 1);
        x.due("ofLine(2, 0)", 1 << 23);
        x.due("ofLine(3, 0)", ALL_COLUMNS - 1 - (1 << 23));
        x.due("ofLine(4, 0)", 1 + (3 << 11) + (1 << 23));
        x.due("ofLine(5, 0)", 0);
    }

    private void sumOfLine(Run x) {
        x.make("thing(0, 0, 1, 24, 1)", "thing(1, 0, 1, 1, 1)", "thing(2, 23, 1, 24, 9)", "thing(2, 0, 1, 2, 5)", "shoot()");
        x.due("ofLine(0, 1)", 96);
        x.due("ofLine(1, 1)", 4);
        x.due("ofLine(2, 1)", 36 + 40);
        x.due("ofLine(3, 1)", 0);
        Run y = x.another();
        eightThings(y, 9);
        y.make("set(0, 0)", "set(1, 20)", "flash(0, 20)", "shoot()");
        y.due("ofLine(15, 1)", 24 * 30 * 3 * 20);
    }

    private void leftmostOfLine(Run x) {
        x.make("thing(0, 0, 1, 24, 1)", "thing(1, 23, 1, 1, 1)", "thing(2, 9, 1, 1, 9)", "thing(2, 4, 1, 1, 1)", "shoot()");
        x.due("ofLine(0, 2)", 0);
        x.due("ofLine(1, 2)", 23);
        x.due("ofLine(2, 2)", 4);
        x.due("ofLine(3, 2)", NONE);
    }

    private void noLine(Run x) {
        x.make("thing(0, 0, 16, 24, 1)", "shoot()");
        for (int what = 0; what < 3; what++) {
            x.eachRefused(NO_SUCH, out("ofLine(?, " + what + ")", -6, -1, 16));
        }
        x.eachRefused(NO_SUCH, "ofLine(16, 3)", "ofLine(-1, -1)");
    }

    private void ofLineWrongWhat(Run x) {
        x.make("thing(0, 0, 16, 24, 1)", "shoot()");
        x.eachRefused(BAD_VALUE, out("ofLine(0, ?)", -6, -1, 3));
        x.eachRefused(BAD_VALUE, out("ofLine(15, ?)", -1, 3));
    }

    private void countTime(Run x) {
        x.due("count(0)", 0);
        x.make("pass(1)");
        x.due("count(0)", 1);
        x.make("shoot()");
        x.due("count(0)", 35);
        x.make("flash(99, 20)", "thing(0, 0, 1, 1, 1)");
        x.due("count(0)", 35);
        x.passTo(9999);
        x.changesNothing("count(0)");
    }

    private void countThings(Run x) {
        x.due("count(1)", 0);
        eightThings(x, 1);
        x.due("count(1)", 8);
        x.make("undo()");
        x.due("count(1)", 7);
        x.changesNothing("count(1)");
    }

    private void countPictures(Run x) {
        x.due("count(2)", 0);
        x.make("shoot()");
        x.due("count(2)", 1);
        x.text("p;p;p");
        x.make("carryOut()");
        x.due("count(2)", 4);
        x.make("undo()");
        x.due("count(2)", 1);
        x.make("pass(99)", "set(0, 0)");
        x.due("count(2)", 1);
        x.passTo(9999);
        x.make("shoot()");
        x.due("count(2)", 1);
        x.changesNothing("count(2)");
    }

    private void countDark(Run x) {
        x.due("count(3)", ALL_LINES);
        x.make("thing(0, 23, 1, 1, 1)", "shoot()");
        x.due("count(3)", ALL_LINES - 1);
        x.make("thing(15, 0, 1, 1, 1)", "shoot()");
        x.due("count(3)", ALL_LINES - 1 - (1 << 15));
        x.make("thing(0, 0, 16, 1, 1)");
        x.due("count(3)", ALL_LINES - 1 - (1 << 15));
        x.make("shoot()");
        x.due("count(3)", 0);
        x.make("set(2, 1)", "shoot()");
        x.due("count(3)", ALL_LINES);
        x.changesNothing("count(3)");
    }

    private void countBrightest(Run x) {
        x.due("count(4)", 0);
        int[][] corners = {{0, 0}, {0, 23}, {15, 0}, {15, 23}};
        for (int[] one : corners) {
            Run y = x.another();
            y.make("thing(7, 7, 1, 1, 1)", call("thing", one[0], one[1], 1, 1, 2), "shoot()");
            y.due("count(4)", 8);
        }
        eightThings(x, 9);
        x.make("set(0, 0)", "set(1, 20)", "flash(0, 20)");
        x.due("count(4)", 0);
        x.make("shoot()");
        x.due("count(4)", 30 * 3 * 20);
        x.changesNothing("count(4)");
    }

    private void countBands(Run x) {
        x.due("count(5)", 0);
        int[][] lineHighBands = {{0, 16, 0}, {0, 15, 1}, {1, 15, 1}, {15, 1, 1}, {0, 1, 1}, {1, 14, 2}, {7, 2, 2}, {1, 1, 2},
            {14, 1, 2}};
        for (int[] one : lineHighBands) {
            Run y = x.another();
            y.make(call("thing", one[0], 23, one[1], 1, 1), "shoot()");
            y.due("count(5)", one[2]);
        }
        // the most: every other line is dark, the one on top, and the lowest one
        for (int first = 0; first < 2; first++) {
            Run y = x.another();
            for (int line = first; line < 16; line += 2) {
                y.make(call("thing", line, line, 1, 1, 1));
            }
            y.make("shoot()");
            y.due("count(5)", 15);
            y.changesNothing("count(5)");
        }
    }

    private void countFlashTime(Run x) {
        x.due("count(6)", NONE);
        x.refused("flash(100, 1)", BAD_VALUE);
        x.due("count(6)", NONE);
        x.make("flash(0, 1)");
        x.due("count(6)", 0);
        x.make("pass(99)");
        x.due("count(6)", 0);
        x.make("undo()", "undo()");
        x.due("count(6)", NONE);
        x.passTo(9999);
        x.make("flash(99, 1)");
        x.due("count(6)", 10098);
        x.changesNothing("count(6)");
    }

    private void countFlashTicks(Run x) {
        x.due("count(7)", 0);
        x.refused("flash(0, 21)", BAD_VALUE);
        x.due("count(7)", 0);
        x.make("flash(0, 1)");
        x.due("count(7)", 1);
        x.make("pass(99)", "flash(0, 20)");
        x.due("count(7)", 20);
        x.make("pass(99)");
        x.due("count(7)", 20);
        x.make("undo()", "undo()");
        x.due("count(7)", 1);
        x.changesNothing("count(7)");
    }

    private void countSettings(Run x) {
        int[] first = {2, 4, 0, 1};
        int[] least = {0, 1, 0, 1};
        int[] most = {9, 20, 40, 4};
        for (int setting = 0; setting < 4; setting++) {
            x.due(call("count", 8 + setting), first[setting]);
            x.make(call("set", setting, least[setting]));
            x.due(call("count", 8 + setting), least[setting]);
            x.make(call("set", setting, most[setting]));
            x.due(call("count", 8 + setting), most[setting]);
        }
        for (int setting = 0; setting < 4; setting++) {
            x.due(call("count", 8 + setting), most[setting]);
            x.changesNothing(call("count", 8 + setting));
        }
    }

    private void countPad(Run x) {
        x.due("count(12)", 0);
        x.text("x");
        x.due("count(12)", 1);
        x.text("12345678");
        x.due("count(12)", 9);
        x.text("p".repeat(71));
        x.due("count(12)", 80);
        x.changesNothing("count(12)");
        x.make("wipe()");
        x.due("count(12)", 0);
    }

    private void countChanges(Run x) {
        x.due("count(13)", 0);
        for (int change = 1; change <= 14; change++) {
            x.make("pass(1)");
            x.due("count(13)", Math.min(6, change));
        }
        x.changesNothing("count(13)");
        for (int left = 5; left >= 0; left--) {
            x.make("undo()");
            x.due("count(13)", left);
        }
        x.refused("undo()", NOT_POSSIBLE);
        x.due("count(13)", 0);
    }

    private void countWrongWhat(Run x) {
        x.eachRefused(BAD_VALUE, out("count(?)", -6, -1, 14, 15));
        Run y = x.another();
        full(y);
        y.eachRefused(BAD_VALUE, out("count(?)", -1, 14));
    }

    private void seenLater(Run x) {
        x.due("seen(0, 0, 0)", 0);
        x.make("thing(0, 0, 1, 1, 5)", "speed(0, 10)", "thing(15, 23, 1, 1, 9)", "flash(23, 1)", "pass(1)");
        x.due("seen(0, 0, 0)", 0);
        x.due("seen(0, 1, 0)", 5);
        x.due("seen(0, 22, 21)", 5);
        x.due("seen(0, 23, 22)", 15);
        x.due("seen(15, 23, 21)", 9);
        x.due("seen(15, 23, 22)", 27);
        x.due("seen(15, 23, 23)", 9);
        x.due("seen(15, 22, 22)", 0);
        x.due("seen(14, 23, 22)", 0);
        x.changesNothing("seen(15, 23, 22)");
    }

    private void seenIn(Run x) {
        x.make("thing(0, 0, 1, 1, 1)", "flash(0, 1)");
        x.due("seen(0, 0, 0)", 3);
        x.due("seen(0, 0, 1)", 1);
        x.make("flash(99, 1)");
        x.due("seen(0, 0, 98)", 1);
        x.due("seen(0, 0, 99)", 3);
        x.eachRefused(BAD_VALUE, out("seen(0, 0, ?)", -1, 100));
        x.passTo(9999);
        x.due("seen(0, 0, 99)", 1);
        x.eachRefused(BAD_VALUE, out("seen(0, 0, ?)", -1, 100));
    }

    private void seenWrongIn(Run x) {
        x.make("thing(0, 0, 16, 24, 1)");
        x.eachRefused(BAD_VALUE, out("seen(15, 23, ?)", -6, -1, 100));
        x.eachRefused(NO_SUCH, "seen(16, 23, 100)", "seen(15, 24, 100)", "seen(-1, 0, -1)", "seen(0, -1, -1)");
    }

    private void leaning(Run x) {
        x.make("pass(1)", "thing(3, 7, 5, 1, 1)");
        x.due("leans(0)", 1000);
        // it came a tick before: line 3 begins 6 ticks from now, line 7 begins in 14: at 7 tenths 4.9 and 10.5
        x.make("speed(0, 7)", "pass(1)");
        x.due("leans(0)", 1000 + 10 - 4);
        // one tenth to the left is a column at once: -0.7 and -1.5
        x.make("speed(0, -1)", "pass(1)");
        x.due("leans(0)", 1000 - 2 + 1);
        x.make("thing(9, 0, 1, 1, 1)", "speed(1, 40)");
        x.due("leans(1)", 1000);
        x.make("set(0, 0)", "speed(0, 40)");
        x.due("leans(0)", 1000);
        x.changesNothing("leans(0)");
    }

    private void leaningBeyond(Run x) {
        x.make("thing(15, 0, 16, 1, 1)", "speed(0, 10)", "thing(15, 0, 2, 1, 1)", "speed(1, 10)", "thing(0, 0, 16, 1, 1)",
                "speed(2, 10)", "thing(15, 0, 1, 1, 1)", "speed(3, 10)");
        x.due("leans(0)", 1030);
        x.due("leans(1)", 1002);
        x.due("leans(2)", 1030);
        x.due("leans(3)", 1000);
        x.make("set(0, 9)");
        x.due("leans(0)", 1000 + 15 * 9);
    }

    private void leaningExtremes(Run x) {
        x.make("set(0, 9)");
        for (int thing = 0; thing < 8; thing++) {
            x.make("thing(15, 0, 16, 1, 1)", call("speed", thing, 40), call("ride", thing, thing == 0 ? NONE : thing - 1));
            x.due(call("leans", thing), 1000 + 540 * (thing + 1));
        }
        for (int thing = 0; thing < 8; thing++) {
            x.make(call("speed", thing, -40));
        }
        x.due("leans(0)", 1000 - 540);
        x.due("leans(7)", 1000 - 540 * 8);
    }

    private void leansNoThing(Run x) {
        x.eachRefused(NO_SUCH, out("leans(?)", -6, -1, 0, 1));
        x.make("thing(0, 0, 1, 1, 1)");
        x.eachRefused(NO_SUCH, out("leans(?)", -6, -1, 1, 7));
        Run y = x.another();
        eightThings(y, 1);
        y.due("leans(7)", 1000);
        y.eachRefused(NO_SUCH, out("leans(?)", -1, 8));
    }

    private void bending(Run x) {
        x.make("thing(0, 0, 16, 1, 9)", "set(1, 1)");
        x.due("bent()", 0);
        // line k begins 2k ticks from now, k columns farther: two pixels in each line but the first
        x.make("speed(0, 5)");
        x.due("bent()", 30);
        x.make("pass(20)");
        // 10 columns farther: from line 14 on it is beyond the picture
        x.due("bent()", 2 * 13 + 2);
        x.make("set(0, 0)");
        x.due("bent()", 0);
        // ticks that are others, but as many of them: told the same
        Run y = x.another();
        y.make("thing(0, 0, 16, 24, 1)", "set(2, 4)");
        y.due("bent()", 0);
        y.make("set(1, 1)");
        y.due("bent()", 8 * 24);
        y.make("pass(1)");
        y.due("bent()", 8 * 24);
        y.make("set(2, 2)");
        y.due("bent()", 0);
        // from now on: a flash that burns now is in all lines then
        y.make("set(2, 0)", "flash(0, 1)");
        y.due("bent()", 15 * 24);
        y.make("flash(30, 1)");
        y.due("bent()", 24);
        y.make("flash(31, 1)");
        y.due("bent()", 0);
        y.changesNothing("bent()");
    }

    private void bendingExtremes(Run x) {
        x.due("bent()", 0);
        x.make("thing(15, 23, 1, 1, 1)", "set(0, 9)", "set(1, 20)");
        x.due("bent()", 0);
        x.make("flash(0, 1)");
        x.due("bent()", 1);
        // the first line can't be told otherwise: 360 are the most
        Run y = x.another();
        y.make("thing(0, 0, 16, 24, 1)", "set(0, 9)", "set(1, 20)", "flash(0, 20)");
        y.due("bent()", 15 * 24);
        y.make("set(0, 0)");
        y.due("bent()", 0);
    }

    private void flashing(Run x) {
        x.due("flashed()", 0);
        x.make("set(0, 5)", "set(1, 2)");
        // line k is exposed 5k and 5k + 1 ticks from now
        int[][] inManyLines = {{0, 1, 1}, {1, 1, 1}, {2, 1, 0}, {2, 3, 0}, {2, 4, 2}, {4, 1, 0}, {5, 1, 2}, {6, 1, 2},
            {6, 5, 6}, {7, 3, 0}, {0, 20, 15}, {1, 20, 31}, {75, 1, 1 << 15}, {76, 20, 1 << 15}, {77, 20, 0}, {99, 20, 0},
            {71, 5, 3 << 14}, {57, 19, 15 << 12}};
        for (int[] one : inManyLines) {
            x.make(call("flash", one[0], one[1]));
            x.due("flashed()", one[2]);
        }
        x.changesNothing("flashed()");
    }

    private void flashingSets(Run x) {
        x.make("set(0, 0)", "flash(3, 1)");
        x.due("flashed()", ALL_LINES);
        x.make("pass(3)");
        x.due("flashed()", ALL_LINES);
        x.make("pass(1)");
        x.due("flashed()", 0);
        x.make("set(0, 1)", "set(1, 20)", "flash(15, 5)");
        x.due("flashed()", ALL_LINES);
        x.make("flash(35, 1)");
        x.due("flashed()", 0);
        x.make("flash(34, 1)");
        x.due("flashed()", 1 << 15);
        // one that is over, or was long ago
        x.make("flash(0, 20)", "pass(19)");
        x.due("flashed()", 1);
        x.make("pass(1)");
        x.due("flashed()", 0);
    }

    private void bestIn(Run x) {
        int[][] lineExposeManyInLines = {{2, 4, 1, 2, 2}, {2, 4, 20, 3, 12}, {0, 1, 1, 0, 16}, {0, 20, 20, 0, 16},
            {9, 1, 1, 0, 1}, {9, 1, 9, 0, 1}, {9, 1, 10, 0, 2}, {9, 1, 20, 0, 3}, {9, 20, 1, 18, 3}, {9, 20, 20, 17, 5},
            {1, 1, 20, 0, 16}, {1, 1, 16, 0, 16}, {1, 1, 15, 0, 15}, {1, 20, 1, 15, 16}, {1, 16, 1, 15, 16}, {1, 15, 1, 14, 15},
            {2, 1, 20, 0, 10}, {3, 5, 7, 3, 4}};
        for (int[] one : lineExposeManyInLines) {
            Run y = x.another();
            y.make("pass(3)", "flash(40, 20)", call("set", 0, one[0]), call("set", 1, one[1]));
            y.due(call("bestFlash", one[2], 0), one[3]);
            y.due(call("bestFlash", one[2], 1), one[4]);
            // and so it is if it is set then, and not in the tick before
            y.make(call("flash", one[3], one[2]));
            y.equal("lines then", Long.bitCount(y.make("flashed()")), one[4]);
            if (one[3] > 0) {
                y.make(call("flash", one[3] - 1, one[2]));
                y.equal("fewer lines a tick before", Long.bitCount(y.make("flashed()")) < one[4] ? 1 : 0, 1);
            }
        }
        x.passTo(9999);
        x.due("bestFlash(20, 0)", 3);
        x.due("bestFlash(20, 1)", 12);
        x.changesNothing("bestFlash(20, 0)");
    }

    private void bestMany(Run x) {
        x.eachRefused(BAD_VALUE, out("bestFlash(?, 0)", -1, 0, 21));
        x.eachRefused(BAD_VALUE, out("bestFlash(?, 1)", -1, 0, 21));
        x.due("bestFlash(1, 1)", 2);
        x.due("bestFlash(2, 1)", 3);
        x.due("bestFlash(3, 1)", 3);
        x.due("bestFlash(20, 1)", 12);
    }

    private void bestWhat(Run x) {
        x.eachRefused(BAD_VALUE, out("bestFlash(1, ?)", -6, -1, 2));
        x.eachRefused(BAD_VALUE, out("bestFlash(20, ?)", -1, 2));
        x.due("bestFlash(20, 0)", 3);
        x.due("bestFlash(20, 1)", 12);
        x.changesNothing("bestFlash(20, 1)");
    }

    private void bestWrong(Run x) {
        full(x);
        x.eachRefused(BAD_VALUE, "bestFlash(0, 0)", "bestFlash(21, 1)", "bestFlash(1, 2)", "bestFlash(20, -1)",
                "bestFlash(0, 2)", "bestFlash(21, -1)");
        x.due("bestFlash(20, 1)", 8);
    }
}
