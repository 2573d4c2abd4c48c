/** Runs of calls for each promise, with answers that were worked out by hand from the document. */
public final class PromisesTest {
    private static final int NO_SUCH = -1, BAD_VALUE = -2, BAD_TEXT = -3, TOO_MANY = -4, NOT_POSSIBLE = -5, NONE = -6;
    private static final int LINE = 0, EXPOSE = 1, FLICKER = 2, JOIN = 3;
    private static final int[] FAR = {Integer.MIN_VALUE, Integer.MIN_VALUE + 1, -1000000, 1000000, Integer.MAX_VALUE - 1,
        Integer.MAX_VALUE};

    private static final Checks CHECKS = new Checks("PromisesTest");
    private static int promise = 0;

    public static void main(String[] args) {
        constants();
        newObject();
        set();
        thing();
        speed();
        ride();
        flash();
        pass();
        shoot();
        exposure();
        of();
        pixel();
        joined();
        ofLine();
        count();
        seen();
        leans();
        bent();
        flashed();
        bestFlash();
        put();
        wipe();
        fault();
        carryOut();
        carryOutErrors();
        undo();
        undoneParts();
        save();
        restore();
        CHECKS.end();
    }

    private static void due(String call, long got, long want) {
        CHECKS.due("promise " + promise + ": " + call, got, want);
    }

    private static LeaningLines fresh(int itsPromise) {
        promise = itsPromise;
        return new LeaningLines();
    }

    private static void passMany(LeaningLines x, int ticks) {
        int rest = ticks;
        while (rest > 0) {
            int some = Math.min(99, rest);
            x.pass(some);
            rest -= some;
        }
    }

    private static void constants() {
        promise = 0;
        due("NO_SUCH", LeaningLines.NO_SUCH, -1);
        due("BAD_VALUE", LeaningLines.BAD_VALUE, -2);
        due("BAD_TEXT", LeaningLines.BAD_TEXT, -3);
        due("TOO_MANY", LeaningLines.TOO_MANY, -4);
        due("NOT_POSSIBLE", LeaningLines.NOT_POSSIBLE, -5);
        due("NONE", LeaningLines.NONE, -6);
        due("LINE", LeaningLines.LINE, 0);
        due("EXPOSE", LeaningLines.EXPOSE, 1);
        due("FLICKER", LeaningLines.FLICKER, 2);
        due("JOIN", LeaningLines.JOIN, 3);
    }

    private static void newObject() {
        LeaningLines x = fresh(1);
        int[] counts = {0, 0, 0, 65535, 0, 0, NONE, 0, 2, 4, 0, 1, 0, 0};
        for (int what = 0; what < counts.length; what++) {
            due("count(" + what + ")", x.count(what), counts[what]);
        }
        for (int line = 0; line < 16; line++) {
            due("ofLine 0", x.ofLine(line, 0), 0);
            due("ofLine 1", x.ofLine(line, 1), 0);
            due("ofLine 2", x.ofLine(line, 2), NONE);
            due("seen", x.seen(line, line, line), 0);
        }
        due("of(0, 0)", x.of(0, 0), NO_SUCH);
        due("undo()", x.undo(), NOT_POSSIBLE);
        due("restore(0)", x.restore(0), NOT_POSSIBLE);
        due("restore(1)", x.restore(1), NOT_POSSIBLE);
        due("fault()", x.fault(), 0);
        due("wipe()", x.wipe(), 0);
        x.thing(0, 0, 1, 1, 1);
        x.pass(5);
        x.set(LINE, 7);
        x.save(0);
        Checks.putText(x, "p;");
        LeaningLines other = new LeaningLines();
        due("another one: count(0)", other.count(0), 0);
        due("another one: count(1)", other.count(1), 0);
        due("another one: count(8)", other.count(8), 2);
        due("another one: count(12)", other.count(12), 0);
        due("another one: count(13)", other.count(13), 0);
        due("another one: restore(0)", other.restore(0), NOT_POSSIBLE);
    }

    private static void set() {
        int[] least = {0, 1, 0, 1};
        int[] most = {9, 20, 40, 4};
        int[] first = {2, 4, 0, 1};
        for (int setting = LINE; setting <= JOIN; setting++) {
            LeaningLines x = fresh(2);
            due("set below", x.set(setting, least[setting] - 1), BAD_VALUE);
            due("set above", x.set(setting, most[setting] + 1), BAD_VALUE);
            for (int far : FAR) {
                due("set far", x.set(setting, far), BAD_VALUE);
            }
            due("after errors", x.count(8 + setting), first[setting]);
            due("after errors undo", x.undo(), NOT_POSSIBLE);
            due("set least", x.set(setting, least[setting]), first[setting]);
            due("is least", x.count(8 + setting), least[setting]);
            due("set most", x.set(setting, most[setting]), least[setting]);
            due("is most", x.count(8 + setting), most[setting]);
            due("set the same", x.set(setting, most[setting]), most[setting]);
            due("changes", x.count(13), 3);
            for (int other = LINE; other <= JOIN; other++) {
                if (other != setting) {
                    due("the others stay", x.count(8 + other), first[other]);
                }
            }
        }
        LeaningLines x = fresh(2);
        due("set(-1, 1)", x.set(-1, 1), BAD_VALUE);
        due("set(4, 1)", x.set(4, 1), BAD_VALUE);
        for (int far : FAR) {
            due("set(far, 1)", x.set(far, 1), BAD_VALUE);
        }
        x.thing(1, 2, 1, 1, 3);
        due("shoot()", x.shoot(), 12);
        x.set(EXPOSE, 9);
        x.set(FLICKER, 1);
        due("the picture stays", x.pixel(1, 2), 12);
    }

    private static void thing() {
        LeaningLines x = fresh(3);
        int[][] wrong = {{-1, 0, 1, 1, 1}, {16, 0, 1, 1, 1}, {0, -1, 1, 1, 1}, {0, 24, 1, 1, 1}, {0, 0, 0, 1, 1},
            {0, 0, 17, 1, 1}, {0, 0, 1, 0, 1}, {0, 0, 1, 25, 1}, {0, 0, 1, 1, 0}, {0, 0, 1, 1, 10}};
        for (int[] w : wrong) {
            due("thing with one out of range", x.thing(w[0], w[1], w[2], w[3], w[4]), BAD_VALUE);
        }
        for (int far : FAR) {
            due("thing far line", x.thing(far, 0, 1, 1, 1), BAD_VALUE);
            due("thing far left", x.thing(0, far, 1, 1, 1), BAD_VALUE);
            due("thing far high", x.thing(0, 0, far, 1, 1), BAD_VALUE);
            due("thing far wide", x.thing(0, 0, 1, far, 1), BAD_VALUE);
            due("thing far brightness", x.thing(0, 0, 1, 1, far), BAD_VALUE);
        }
        due("things", x.count(1), 0);
        due("changes", x.count(13), 0);
        x.pass(7);
        due("thing least", x.thing(0, 0, 1, 1, 1), 0);
        due("thing most", x.thing(15, 23, 16, 24, 9), 1);
        due("thing", x.thing(3, 4, 5, 6, 7), 2);
        int[][] what = {{0, 1000, 1, 1, 1, 100, NONE, 1000}, {15, 1023, 16, 24, 9, 100, NONE, 1000},
            {3, 1004, 5, 6, 7, 100, NONE, 1000}};
        for (int thing = 0; thing < 3; thing++) {
            for (int one = 0; one < 8; one++) {
                due("of(" + thing + ", " + one + ")", x.of(thing, one), what[thing][one]);
            }
        }
        for (int number = 3; number < 8; number++) {
            due("thing " + number, x.thing(1, 1, 1, 1, 1), number);
        }
        due("things", x.count(1), 8);
        int changes = x.count(13);
        due("thing 8", x.thing(1, 1, 1, 1, 1), TOO_MANY);
        due("thing 8, out of range", x.thing(1, 1, 1, 1, 10), BAD_VALUE);
        due("thing 8, out of range", x.thing(16, 1, 1, 1, 1), BAD_VALUE);
        due("things", x.count(1), 8);
        due("changes", x.count(13), changes);
        x.undo();
        due("thing 7 again, number", x.thing(9, 9, 9, 9, 9), 7);
        due("thing 7 again, line", x.of(7, 0), 9);
    }

    private static void speed() {
        LeaningLines x = fresh(4);
        due("speed of none", x.speed(0, 0), NO_SUCH);
        x.thing(0, 10, 1, 1, 1);
        due("speed(-1, 0)", x.speed(-1, 0), NO_SUCH);
        due("speed(1, 0)", x.speed(1, 0), NO_SUCH);
        due("speed(1, 41)", x.speed(1, 41), NO_SUCH);
        due("speed(0, 41)", x.speed(0, 41), BAD_VALUE);
        due("speed(0, -41)", x.speed(0, -41), BAD_VALUE);
        for (int far : FAR) {
            due("speed(far, 0)", x.speed(far, 0), NO_SUCH);
            due("speed(0, far)", x.speed(0, far), BAD_VALUE);
        }
        due("changes", x.count(13), 1);
        due("speed(0, 40)", x.speed(0, 40), 100);
        due("speed(0, -40)", x.speed(0, -40), 140);
        due("speed(0, 3)", x.speed(0, 3), 60);
        due("of 5", x.of(0, 5), 103);
        // 3 tenths a tick: 0.9 columns after 3 ticks, 1.2 after 4
        x.pass(3);
        due("left after 3", x.of(0, 1), 1010);
        x.pass(1);
        due("left after 4", x.of(0, 1), 1011);
        // it comes anew at 11, and 2 tenths that it had gone beyond are lost
        due("speed(0, 3) anew", x.speed(0, 3), 103);
        x.pass(3);
        due("left 3 after it came anew", x.of(0, 1), 1011);
        x.pass(1);
        due("left 4 after it came anew", x.of(0, 1), 1012);
        // below 0 rounded down: a tenth to the left is a column
        due("speed(0, -1)", x.speed(0, -1), 103);
        due("left at once", x.of(0, 1), 1012);
        x.pass(1);
        due("left a tick later", x.of(0, 1), 1011);
        x.pass(9);
        due("left 10 ticks later", x.of(0, 1), 1011);
        x.pass(1);
        due("left 11 ticks later", x.of(0, 1), 1010);
        due("speed(0, -40)", x.speed(0, -40), 99);
        x.pass(10);
        due("left beyond the picture", x.of(0, 1), 970);
        due("speed(0, 0)", x.speed(0, 0), 60);
        x.pass(50);
        due("it stands", x.of(0, 1), 970);
        due("what it came with stays", x.of(0, 0), 0);
    }

    private static void ride() {
        LeaningLines x = fresh(5);
        due("ride of none", x.ride(0, NONE), NO_SUCH);
        x.thing(0, 10, 1, 1, 1);
        x.thing(0, 2, 1, 1, 1);
        x.thing(0, 20, 1, 1, 1);
        due("ride(-1, 0)", x.ride(-1, 0), NO_SUCH);
        due("ride(3, 0)", x.ride(3, 0), NO_SUCH);
        due("ride(3, 7)", x.ride(3, 7), NO_SUCH);
        due("ride(0, 0)", x.ride(0, 0), BAD_VALUE);
        due("ride(1, 1)", x.ride(1, 1), BAD_VALUE);
        due("ride(1, 2)", x.ride(1, 2), BAD_VALUE);
        for (int on = -8; on < 0; on++) {
            due("ride(2, below 0)", x.ride(2, on), on == NONE ? NONE : BAD_VALUE);
        }
        for (int far : FAR) {
            due("ride(far, 0)", x.ride(far, 0), NO_SUCH);
            due("ride(2, far)", x.ride(2, far), BAD_VALUE);
        }
        due("changes", x.count(13), 4);
        x.speed(0, 10);
        due("ride(1, 0)", x.ride(1, 0), NONE);
        due("ride(2, 1)", x.ride(2, 1), NONE);
        due("of 6", x.of(2, 6), 1);
        due("ride(0, NONE)", x.ride(0, NONE), NONE);
        x.pass(5);
        due("left of 0", x.of(0, 1), 1015);
        due("left of 1, which rides on 0", x.of(1, 1), 1007);
        due("left of 2, which rides on 1", x.of(2, 1), 1025);
        // that on which it rides comes anew: what it truly was before still counts
        due("speed(0, -20)", x.speed(0, -20), 110);
        x.pass(5);
        due("left of 0", x.of(0, 1), 1005);
        due("left of 1", x.of(1, 1), 997);
        due("left of 2", x.of(2, 1), 1015);
        due("ride(1, NONE)", x.ride(1, NONE), 0);
        x.pass(1);
        due("left of 0", x.of(0, 1), 1003);
        due("left of 1, on the ground", x.of(1, 1), 997);
        due("left of 2", x.of(2, 1), 1015);
        due("ride(2, 0)", x.ride(2, 0), 1);
        due("ride(2, 0) again", x.ride(2, 0), 0);
        due("of 7", x.of(2, 7), 980);
        x.pass(1);
        due("left of 2, which rides on 0", x.of(2, 1), 1013);
        ridesKeepSpeed();
    }

    private static void ridesKeepSpeed() {
        LeaningLines x = fresh(5);
        x.thing(0, 0, 1, 1, 1);
        x.thing(0, 5, 1, 1, 1);
        x.speed(0, 3);
        x.speed(1, 7);
        x.pass(1);
        // 0.7 columns are lost as it comes anew on 0, at column 0.3 of which 0 counts
        due("ride(1, 0)", x.ride(1, 0), NONE);
        due("it keeps its speed", x.of(1, 5), 107);
        due("left at once", x.of(1, 1), 1005);
        x.pass(1);
        due("0.7 rounded down", x.of(1, 1), 1005);
        x.pass(1);
        due("1.4 rounded down", x.of(1, 1), 1006);
        x.pass(1);
        due("2.1 and that on which it rides 1.2", x.of(1, 1), 1008);
        due("speed keeps the ride", x.speed(1, 0), 107);
        due("of 6", x.of(1, 6), 0);
        x.pass(3);
        due("on 0 at 2.1, which was at 1", x.of(1, 1), 1009);
        // one that is on the ground may come to ride on one that rides itself
        due("thing", x.thing(0, 23, 1, 1, 1), 2);
        due("ride(2, 1)", x.ride(2, 1), NONE);
        x.pass(3);
        due("with 0 at 3, which was at 2", x.of(2, 1), 1024);
        // all that comes anew in one tick stays where it is
        x.speed(0, 40);
        x.ride(1, NONE);
        x.ride(1, 0);
        x.speed(0, -40);
        due("left of 1", x.of(1, 1), 1010);
        due("left of 2", x.of(2, 1), 1024);
        x.pass(1);
        due("left of 0", x.of(0, 1), 999);
        due("left of 1", x.of(1, 1), 1006);
        due("left of 2", x.of(2, 1), 1020);
    }

    private static void flash() {
        LeaningLines x = fresh(6);
        due("flash(-1, 1)", x.flash(-1, 1), BAD_VALUE);
        due("flash(100, 1)", x.flash(100, 1), BAD_VALUE);
        due("flash(0, 0)", x.flash(0, 0), BAD_VALUE);
        due("flash(0, 21)", x.flash(0, 21), BAD_VALUE);
        for (int far : FAR) {
            due("flash(far, 1)", x.flash(far, 1), BAD_VALUE);
            due("flash(0, far)", x.flash(0, far), BAD_VALUE);
        }
        due("no flash", x.count(6), NONE);
        due("changes", x.count(13), 0);
        x.thing(0, 0, 1, 1, 5);
        due("flash(0, 1)", x.flash(0, 1), 0);
        due("it burns", x.seen(0, 0, 0), 15);
        due("it no longer burns", x.seen(0, 0, 1), 5);
        x.pass(10);
        due("flash(99, 20)", x.flash(99, 20), 109);
        due("count 6", x.count(6), 109);
        due("count 7", x.count(7), 20);
        x.pass(50);
        due("before it", x.seen(0, 0, 48), 5);
        due("its first tick", x.seen(0, 0, 49), 15);
        due("its last tick", x.seen(0, 0, 68), 15);
        due("behind it", x.seen(0, 0, 69), 5);
        due("flash(2, 3)", x.flash(2, 3), 62);
        due("the latest one counts", x.seen(0, 0, 2), 15);
        due("the one before is gone", x.seen(0, 0, 49), 5);
        x.set(FLICKER, 1);
        due("dark", x.seen(0, 0, 1), 0);
        due("a flash burns in the dark", x.seen(0, 0, 4), 15);
        due("dark again", x.seen(0, 0, 5), 0);
        passMany(x, 9999 - 60);
        due("the bound of the time does not matter", x.flash(99, 20), 10098);
    }

    private static void pass() {
        LeaningLines x = fresh(7);
        due("pass(0)", x.pass(0), BAD_VALUE);
        due("pass(-1)", x.pass(-1), BAD_VALUE);
        due("pass(100)", x.pass(100), BAD_VALUE);
        for (int far : FAR) {
            due("pass(far)", x.pass(far), BAD_VALUE);
        }
        due("changes", x.count(13), 0);
        due("pass(1)", x.pass(1), 1);
        due("pass(99)", x.pass(99), 100);
        due("count 0", x.count(0), 100);
        passMany(x, 9900 - 100);
        due("count 0", x.count(0), 9900);
        due("pass(98)", x.pass(98), 9998);
        int changes = x.count(13);
        due("pass(2)", x.pass(2), NOT_POSSIBLE);
        due("pass(100)", x.pass(100), BAD_VALUE);
        due("changes", x.count(13), changes);
        due("pass(1)", x.pass(1), 9999);
        due("pass(1)", x.pass(1), NOT_POSSIBLE);
        due("count 0", x.count(0), 9999);
    }

    private static void shoot() {
        LeaningLines x = fresh(8);
        due("dark", x.shoot(), 0);
        due("the time", x.count(0), 34);
        due("pictures", x.count(2), 1);
        x.thing(14, 22, 5, 6, 4);
        // of 5 lines and 6 columns 2 and 2 are in the picture
        due("partly beyond the picture", x.shoot(), 2 * 2 * 4 * 4);
        due("pictures", x.count(2), 2);
        x.set(LINE, 9);
        x.set(EXPOSE, 20);
        due("longest", x.shoot(), 2 * 2 * 4 * 20);
        due("the time", x.count(0), 68 + 155);
        x.set(LINE, 0);
        x.set(EXPOSE, 1);
        due("shortest", x.shoot(), 2 * 2 * 4);
        due("the time", x.count(0), 224);
        passMany(x, 9998 - 224);
        due("to 9999", x.shoot(), 16);
        int changes = x.count(13);
        due("beyond 9999", x.shoot(), NOT_POSSIBLE);
        due("changes", x.count(13), changes);
        due("pictures", x.count(2), 5);
        due("the time", x.count(0), 9999);
        x = fresh(8);
        passMany(x, 9999 - 33);
        due("34 ticks when there are 33", x.shoot(), NOT_POSSIBLE);
        x.undo();
        x.pass(65);
        due("34 ticks when there are 34 and more", x.shoot(), 0);
        passMany(x, 9999 - x.count(0));
        due("full", x.count(0), 9999);
        due("no tick is left", x.shoot(), NOT_POSSIBLE);
    }

    private static void exposure() {
        LeaningLines x = fresh(8);
        // at 10 tenths a tick line k sees columns 2k to 2k + 3 go by
        x.thing(0, 0, 16, 1, 9);
        x.speed(0, 10);
        due("shoot()", x.shoot(), 9 * (11 * 4 + 2));
        for (int column = 0; column < 24; column++) {
            due("line 3", x.pixel(3, column), column >= 6 && column < 10 ? 9 : 0);
        }
        due("line 10", x.ofLine(10, 0), 0xF << 20);
        due("line 11", x.ofLine(11, 0), 0x3 << 22);
        due("line 12", x.ofLine(12, 0), 0);
        // 4 times 9 is 36: 30 at most are seen, in each tick and before the light
        x = fresh(8);
        for (int thing = 0; thing < 4; thing++) {
            x.thing(0, 0, 1, 1 + thing, 9);
        }
        x.flash(0, 2);
        due("shoot()", x.shoot(), 2 * (90 + 81 + 54 + 27) + 2 * (30 + 27 + 18 + 9));
        due("capped", x.pixel(0, 0), 240);
        due("not capped", x.pixel(0, 1), 216);
        // of a period of 5 the ticks 2, 3, 4 are dark
        x = fresh(8);
        x.thing(0, 0, 16, 24, 1);
        x.set(FLICKER, 5);
        x.set(EXPOSE, 3);
        x.shoot();
        int[] bright = {2, 0, 2, 1, 1};
        for (int line = 0; line < 16; line++) {
            due("flicker in line " + line, x.pixel(line, 7), bright[line % 5]);
        }
        // the first picture began at 0 and took 33 ticks
        x.shoot();
        int[] later = {1, 2, 0, 2, 1};
        for (int line = 0; line < 16; line++) {
            due("flicker later in line " + line, x.pixel(line, 7), later[line % 5]);
        }
    }

    private static void of() {
        LeaningLines x = fresh(9);
        due("no thing", x.of(0, 0), NO_SUCH);
        due("no thing and out of range", x.of(0, 8), NO_SUCH);
        x.thing(3, 4, 5, 6, 7);
        due("of(-1, 0)", x.of(-1, 0), NO_SUCH);
        due("of(1, 0)", x.of(1, 0), NO_SUCH);
        due("of(0, -1)", x.of(0, -1), BAD_VALUE);
        due("of(0, 8)", x.of(0, 8), BAD_VALUE);
        for (int far : FAR) {
            due("of(far, 0)", x.of(far, 0), NO_SUCH);
            due("of(0, far)", x.of(0, far), BAD_VALUE);
        }
        int[] plain = {3, 1004, 5, 6, 7, 100, NONE, 1000};
        for (int what = 0; what < 8; what++) {
            due("of(0, " + what + ")", x.of(0, what), plain[what]);
        }
        x.speed(0, -15);
        x.thing(0, 0, 1, 1, 1);
        x.speed(1, 40);
        x.ride(1, 0);
        x.thing(0, 9, 1, 1, 1);
        x.speed(2, -7);
        x.ride(2, 1);
        due("of(0, 7)", x.of(0, 7), 985);
        due("of(1, 7)", x.of(1, 7), 1025);
        due("of(2, 7)", x.of(2, 7), 1018);
        due("of(2, 5)", x.of(2, 5), 93);
        due("of(2, 6)", x.of(2, 6), 1);
        x.pass(3);
        // -4.5, 12 and -2.1, each rounded down
        due("of(0, 1)", x.of(0, 1), 999);
        due("of(1, 1)", x.of(1, 1), 1007);
        due("of(2, 1)", x.of(2, 1), 1013);
        due("changes", x.count(13), 6);
    }

    private static void pixel() {
        LeaningLines x = fresh(10);
        x.thing(0, 0, 1, 1, 1);
        x.thing(15, 23, 1, 1, 2);
        x.thing(0, 23, 1, 1, 3);
        x.thing(15, 0, 1, 1, 4);
        due("before it is shot", x.pixel(0, 0), 0);
        x.shoot();
        due("pixel(0, 0)", x.pixel(0, 0), 4);
        due("pixel(15, 23)", x.pixel(15, 23), 8);
        due("pixel(0, 23)", x.pixel(0, 23), 12);
        due("pixel(15, 0)", x.pixel(15, 0), 16);
        due("pixel(7, 7)", x.pixel(7, 7), 0);
        due("pixel(-1, 0)", x.pixel(-1, 0), NO_SUCH);
        due("pixel(16, 0)", x.pixel(16, 0), NO_SUCH);
        due("pixel(0, -1)", x.pixel(0, -1), NO_SUCH);
        due("pixel(0, 24)", x.pixel(0, 24), NO_SUCH);
        due("pixel(1, -1)", x.pixel(1, -1), NO_SUCH);
        for (int far : FAR) {
            due("pixel(far, 0)", x.pixel(far, 0), NO_SUCH);
            due("pixel(0, far)", x.pixel(0, far), NO_SUCH);
        }
        x.speed(0, 40);
        x.pass(50);
        due("the latest picture stays", x.pixel(0, 0), 4);
        x.shoot();
        due("until another one is shot", x.pixel(0, 0), 0);
        due("pixel(15, 0)", x.pixel(15, 0), 16);
    }

    private static void joined() {
        LeaningLines x = fresh(11);
        // a pixel of line k, column 5 is line k's 1 to 16
        x.set(EXPOSE, 1);
        x.set(LINE, 0);
        x.thing(0, 5, 16, 1, 1);
        x.thing(4, 5, 16, 1, 2);
        x.thing(8, 5, 16, 1, 4);
        x.thing(15, 5, 1, 1, 8);
        x.shoot();
        int[] pixels = {1, 1, 1, 1, 3, 3, 3, 3, 7, 7, 7, 7, 7, 7, 7, 15};
        int[][] sums = {pixels, {2, 2, 6, 6, 14, 14, 14, 22}, {3, 7, 13, 21, 21, 15}, {4, 12, 28, 36}};
        for (int join = 1; join <= 4; join++) {
            x.set(JOIN, join);
            int many = sums[join - 1].length;
            for (int line = 0; line < many; line++) {
                due("joined(" + line + ", 5) of " + join, x.joined(line, 5), sums[join - 1][line]);
                due("joined(" + line + ", 6) of " + join, x.joined(line, 6), 0);
            }
            due("joined(many, 5) of " + join, x.joined(many, 5), NO_SUCH);
            due("joined(16, 5) of " + join, x.joined(16, 5), NO_SUCH);
            due("joined(-1, 5) of " + join, x.joined(-1, 5), NO_SUCH);
            due("joined(0, -1) of " + join, x.joined(0, -1), NO_SUCH);
            due("joined(0, 24) of " + join, x.joined(0, 24), NO_SUCH);
            for (int far : FAR) {
                due("joined(far, 5)", x.joined(far, 5), NO_SUCH);
                due("joined(0, far)", x.joined(0, far), NO_SUCH);
            }
            due("joined(1 << 30, 5)", x.joined(1 << 30, 5), NO_SUCH);
        }
        due("the picture itself is not joined", x.pixel(1, 5), 1);
    }

    private static void ofLine() {
        LeaningLines x = fresh(12);
        due("ofLine(-1, 0)", x.ofLine(-1, 0), NO_SUCH);
        due("ofLine(16, 0)", x.ofLine(16, 0), NO_SUCH);
        due("ofLine(16, 3)", x.ofLine(16, 3), NO_SUCH);
        due("ofLine(0, -1)", x.ofLine(0, -1), BAD_VALUE);
        due("ofLine(0, 3)", x.ofLine(0, 3), BAD_VALUE);
        for (int far : FAR) {
            due("ofLine(far, 0)", x.ofLine(far, 0), NO_SUCH);
            due("ofLine(0, far)", x.ofLine(0, far), BAD_VALUE);
        }
        x.thing(15, 3, 1, 2, 2);
        x.thing(15, 23, 1, 1, 9);
        x.thing(0, 0, 1, 24, 1);
        x.shoot();
        due("columns of 15", x.ofLine(15, 0), 1 << 3 | 1 << 4 | 1 << 23);
        due("sum of 15", x.ofLine(15, 1), 4 * (2 + 2 + 9));
        due("leftmost of 15", x.ofLine(15, 2), 3);
        due("columns of 0", x.ofLine(0, 0), (1 << 24) - 1);
        due("sum of 0", x.ofLine(0, 1), 96);
        due("leftmost of 0", x.ofLine(0, 2), 0);
        due("columns of 1", x.ofLine(1, 0), 0);
        due("sum of 1", x.ofLine(1, 1), 0);
        due("leftmost of 1", x.ofLine(1, 2), NONE);
        for (int column = 0; column < 24; column++) {
            x = fresh(12);
            x.thing(column % 16, column, 1, 1, 1);
            x.shoot();
            due("columns", x.ofLine(column % 16, 0), 1 << column);
            due("sum", x.ofLine(column % 16, 1), 4);
            due("leftmost", x.ofLine(column % 16, 2), column);
        }
    }

    private static void count() {
        LeaningLines x = fresh(13);
        due("count(-1)", x.count(-1), BAD_VALUE);
        due("count(14)", x.count(14), BAD_VALUE);
        for (int far : FAR) {
            due("count(far)", x.count(far), BAD_VALUE);
        }
        x.thing(0, 3, 1, 2, 2);
        x.thing(2, 3, 2, 2, 5);
        x.thing(15, 3, 1, 2, 3);
        x.flash(5, 6);
        x.shoot();
        x.set(LINE, 3);
        x.set(EXPOSE, 5);
        x.set(FLICKER, 7);
        x.set(JOIN, 4);
        Checks.putText(x, "p;p;p;p;p");
        // flash 5 to 10: line 0 is not flashed, line 2 sees it in 3 of its 4 ticks, line 3 in 4
        int[] due = {34, 3, 1, 0x7FF2, 60, 4, 5, 6, 3, 5, 7, 4, 9, 6};
        for (int what = 0; what < due.length; what++) {
            due("count(" + what + ")", x.count(what), due[what]);
        }
        x = fresh(13);
        for (int line = 1; line < 16; line += 2) {
            x.thing(line, line, 1, 1, 1);
        }
        x.shoot();
        due("dark lines", x.count(3), 0x5555);
        due("every line is a band", x.count(5), 15);
        due("brightest", x.count(4), 4);
        x = fresh(13);
        x.thing(0, 0, 16, 1, 1);
        x.shoot();
        due("no dark line", x.count(3), 0);
        due("no band", x.count(5), 0);
        x = fresh(13);
        x.thing(8, 0, 16, 1, 1);
        x.shoot();
        due("upper half is dark", x.count(3), 0xFF);
        due("one band", x.count(5), 1);
        x = fresh(13);
        x.thing(0, 23, 8, 1, 2);
        x.shoot();
        due("lower half is dark", x.count(3), 0xFF00);
        due("one band", x.count(5), 1);
        due("brightest", x.count(4), 8);
        for (int corner = 0; corner < 4; corner++) {
            x = fresh(13);
            x.thing(corner % 2 * 15, corner / 2 * 23, 1, 1, 9);
            x.thing(7, 7, 1, 1, 8);
            x.shoot();
            due("brightest in a corner", x.count(4), 36);
        }
    }

    private static void seen() {
        LeaningLines x = fresh(14);
        due("seen(-1, 0, 0)", x.seen(-1, 0, 0), NO_SUCH);
        due("seen(16, 0, 0)", x.seen(16, 0, 0), NO_SUCH);
        due("seen(0, -1, 0)", x.seen(0, -1, 0), NO_SUCH);
        due("seen(0, 24, 0)", x.seen(0, 24, 0), NO_SUCH);
        due("seen(0, 24, 100)", x.seen(0, 24, 100), NO_SUCH);
        due("seen(0, 0, -1)", x.seen(0, 0, -1), BAD_VALUE);
        due("seen(0, 0, 100)", x.seen(0, 0, 100), BAD_VALUE);
        for (int far : FAR) {
            due("seen(far, 0, 0)", x.seen(far, 0, 0), NO_SUCH);
            due("seen(0, far, 0)", x.seen(0, far, 0), NO_SUCH);
            due("seen(0, 0, far)", x.seen(0, 0, far), BAD_VALUE);
        }
        x.thing(4, 5, 2, 3, 6);
        for (int line = 0; line < 16; line++) {
            due("seen line " + line, x.seen(line, 6, 0), line == 4 || line == 5 ? 6 : 0);
        }
        for (int column = 0; column < 24; column++) {
            due("seen column " + column, x.seen(4, column, 99), column >= 5 && column <= 7 ? 6 : 0);
        }
        x.speed(0, 1);
        due("left one still", x.seen(4, 5, 9), 6);
        due("left one no more", x.seen(4, 5, 10), 0);
        due("right one not yet", x.seen(4, 8, 9), 0);
        due("right one", x.seen(4, 8, 10), 6);
        x.speed(0, -40);
        due("beyond the left edge in part", x.seen(4, 0, 1), 0);
        due("at column 1", x.seen(4, 1, 1), 6);
        due("half beyond", x.seen(4, 0, 2), 0);
        x.undo();
        x.undo();
        for (int thing = 0; thing < 4; thing++) {
            x.thing(4, 6, 1, 1, 8);
        }
        due("30 at most", x.seen(4, 6, 0), 30);
        due("others", x.seen(4, 5, 0), 6);
        x.flash(3, 1);
        due("90 in a flash", x.seen(4, 6, 3), 90);
        lightIsSeen();
    }

    private static void lightIsSeen() {
        LeaningLines x = fresh(14);
        x.thing(0, 0, 1, 1, 7);
        for (int flicker : new int[] {0, 1, 2, 3, 8, 9, 40}) {
            x.set(FLICKER, flicker);
            for (int in = 0; in < 50; in++) {
                boolean dark = flicker > 0 && in % flicker >= flicker / 2;
                due("flicker " + flicker + " in " + in, x.seen(0, 0, in), dark ? 0 : 7);
            }
        }
        x.pass(17);
        due("at 17 of 40", x.seen(0, 0, 0), 7);
        due("at 19 of 40", x.seen(0, 0, 2), 7);
        due("at 20 of 40", x.seen(0, 0, 3), 0);
        due("at 40", x.seen(0, 0, 23), 7);
        due("nothing changes", x.count(0), 17);
        passMany(x, 9999 - 17);
        x.set(FLICKER, 0);
        due("behind the last time", x.seen(0, 0, 99), 7);
    }

    private static void leans() {
        LeaningLines x = fresh(15);
        due("leans(0)", x.leans(0), NO_SUCH);
        x.thing(0, 0, 16, 1, 1);
        due("leans(-1)", x.leans(-1), NO_SUCH);
        due("leans(1)", x.leans(1), NO_SUCH);
        for (int far : FAR) {
            due("leans(far)", x.leans(far), NO_SUCH);
        }
        due("it stands", x.leans(0), 1000);
        x.speed(0, 7);
        // 15 lines of 2 ticks of 0.7 columns
        due("leans", x.leans(0), 1021);
        x.speed(0, -7);
        due("leans to the left", x.leans(0), 979);
        x.set(LINE, 0);
        due("all lines at once", x.leans(0), 1000);
        x.set(LINE, 9);
        due("slow lines", x.leans(0), 1000 - 95);
        x.thing(7, 0, 1, 1, 1);
        x.speed(1, 40);
        due("one line", x.leans(1), 1000);
        x.thing(15, 0, 16, 1, 1);
        x.speed(2, 3);
        // its top line is 15, its lowest 30: 270 ticks of 0.3 against 135 of 0.3, that is 81 - 40
        due("beyond the picture", x.leans(2), 1041);
        x.ride(2, 0);
        // and that on which it rides: -189 against -95 (94.5 rounded down)
        due("with all on which it rides", x.leans(2), 1041 - 94);
        x.pass(5);
        // from -3.5: it truly was at 0 as 2 came; (5 + 270) * 0.3 is 82, (5 + 135) * 0.3 is 42;
        // -192.5 against -98
        due("later", x.leans(2), 1000 + 82 - 42 - 193 + 98);
        due("changes", x.count(13), 6);
        passMany(x, 9999 - 5);
        due("the bound of the time does not matter", x.leans(1), 1000);
    }

    private static void bent() {
        LeaningLines x = fresh(16);
        due("nothing to see", x.bent(), 0);
        x.thing(2, 3, 3, 2, 9);
        due("it stands", x.bent(), 0);
        x.speed(0, 5);
        x.set(EXPOSE, 1);
        // lines 2, 3, 4 begin after 4, 6, 8 ticks: 2, 3, 4 columns farther, so 4 pixels in each
        due("it goes", x.bent(), 12);
        x.set(LINE, 1);
        // after 2, 3, 4 ticks: 1, 1, 2 columns farther: 2 and 2 and 4 pixels
        due("slower", x.bent(), 8);
        x.set(LINE, 0);
        due("all lines at once", x.bent(), 0);
        x = fresh(16);
        x.thing(14, 3, 16, 2, 9);
        x.speed(0, 5);
        // in the 4 ticks in which they are exposed, 0 and 28 or 30 ticks later: from 3 and 4, and 17 and 18
        due("nothing beyond the picture", x.bent(), 2 * (3 + 3));
        x = fresh(16);
        x.thing(0, 0, 16, 24, 1);
        x.set(EXPOSE, 1);
        x.set(FLICKER, 4);
        // lines at 0, 2, 4, ... : every other one is dark
        due("flicker", x.bent(), 8 * 24);
        x.pass(2);
        due("flicker, dark now", x.bent(), 8 * 24);
        x.set(FLICKER, 0);
        x.flash(5, 2);
        // burns at 5 and 6: in line 3 alone, which begins after 6
        due("a flash", x.bent(), 24);
        due("nothing changes", x.count(0), 2);
        due("changes", x.count(13), 6);
        passMany(x, 9999 - 2);
        due("the bound of the time does not matter", x.bent(), 0);
    }

    private static void flashed() {
        LeaningLines x = fresh(17);
        due("none is set", x.flashed(), 0);
        x.set(LINE, 3);
        x.set(EXPOSE, 2);
        // line k sees 3k and 3k + 1
        x.flash(0, 1);
        due("first tick", x.flashed(), 1);
        x.flash(1, 1);
        due("last tick of a line", x.flashed(), 1);
        x.flash(2, 1);
        due("between lines", x.flashed(), 0);
        x.flash(2, 2);
        due("first tick of line 1", x.flashed(), 2);
        x.flash(4, 6);
        due("4 to 9", x.flashed(), 2 | 4 | 8);
        x.flash(46, 20);
        due("last tick of the last line", x.flashed(), 1 << 15);
        x.flash(47, 20);
        due("behind the last line", x.flashed(), 0);
        x.flash(45, 1);
        due("line 15", x.flashed(), 1 << 15);
        x.pass(41);
        due("later", x.flashed(), 2);
        x.pass(4);
        due("now", x.flashed(), 1);
        x.pass(1);
        due("it has burnt", x.flashed(), 0);
        x.set(LINE, 0);
        x.flash(1, 1);
        due("all lines at once", x.flashed(), 65535);
        due("nothing changes", x.count(0), 46);
    }

    private static void bestFlash() {
        LeaningLines x = fresh(18);
        due("bestFlash(0, 0)", x.bestFlash(0, 0), BAD_VALUE);
        due("bestFlash(21, 0)", x.bestFlash(21, 0), BAD_VALUE);
        due("bestFlash(1, -1)", x.bestFlash(1, -1), BAD_VALUE);
        due("bestFlash(1, 2)", x.bestFlash(1, 2), BAD_VALUE);
        for (int far : FAR) {
            due("bestFlash(far, 0)", x.bestFlash(far, 0), BAD_VALUE);
            due("bestFlash(1, far)", x.bestFlash(1, far), BAD_VALUE);
        }
        due("1 tick, when", x.bestFlash(1, 0), 2);
        due("1 tick, lines", x.bestFlash(1, 1), 2);
        // from the last tick of line 0 on: lines that begin at 0, 2, ... 22
        due("20 ticks, when", x.bestFlash(20, 0), 3);
        due("20 ticks, lines", x.bestFlash(20, 1), 12);
        x.set(LINE, 9);
        x.set(EXPOSE, 1);
        due("lines far apart, when", x.bestFlash(20, 0), 0);
        due("lines far apart, lines", x.bestFlash(20, 1), 3);
        due("1 tick, when", x.bestFlash(1, 0), 0);
        due("1 tick, lines", x.bestFlash(1, 1), 1);
        due("10 ticks, when", x.bestFlash(10, 0), 0);
        due("10 ticks, lines", x.bestFlash(10, 1), 2);
        x.set(EXPOSE, 20);
        // line 12 begins at 108: with 20 ticks from 19 on lines 0 to 4 (36)
        due("long lines, when", x.bestFlash(20, 0), 17);
        due("long lines, lines", x.bestFlash(20, 1), 5);
        x.set(LINE, 0);
        due("all at once, when", x.bestFlash(1, 0), 0);
        due("all at once, lines", x.bestFlash(1, 1), 16);
        x.flash(50, 20);
        x.pass(99);
        due("neither a flash nor the time matters", x.bestFlash(1, 0), 0);
        x.set(LINE, 1);
        due("lines 0 to 15 at 15", x.bestFlash(1, 0), 15);
        due("lines", x.bestFlash(1, 1), 16);
        due("from 10 on", x.bestFlash(6, 0), 10);
        due("no flash is set by it", x.count(6), 50);
    }

    private static void put() {
        LeaningLines x = fresh(19);
        due("put(0)", x.put(0), BAD_VALUE);
        due("put(-1)", x.put(-1), BAD_VALUE);
        due("a code of 32", x.put(32), BAD_VALUE);
        due("a code of 127", x.put(127), BAD_VALUE);
        due("a code of 1", x.put(1), BAD_VALUE);
        due("a code of 255", x.put(255), BAD_VALUE);
        due("a code of 32 in front", x.put(32L << 8 | 'p'), BAD_VALUE);
        due("a code of 127 in front", x.put(127L << 56 | Checks.packed("ppppppp")), BAD_VALUE);
        due("a code of 200 in front", x.put(200L << 56 | Checks.packed("ppppppp")), BAD_VALUE);
        due("8 bits that are 0 behind", x.put((long) 'p' << 8), BAD_VALUE);
        due("8 bits that are 0 between", x.put((long) 'p' << 16 | 'p'), BAD_VALUE);
        due("a high bit alone", x.put(Long.MIN_VALUE), BAD_VALUE);
        due("a high bit above", x.put(Long.MIN_VALUE | 'p'), BAD_VALUE);
        due("a bit above 0 bits", x.put(1L << 16 | 'p'), BAD_VALUE);
        due("Long.MAX_VALUE", x.put(Long.MAX_VALUE), BAD_VALUE);
        due("empty", x.count(12), 0);
        due("put p", x.put('p'), 1);
        due("put 8", x.put(Checks.packed(";w12;f3.")), 9);
        due("put 4", x.put(Checks.packed("4;p;")), 13);
        due("put 1", x.put('p'), 14);
        due("in this order", x.fault(), NONE);
        due("no change", x.count(13), 0);
        due("carried out", x.carryOut(), 5);
        due("the time", x.count(0), 34 + 12 + 34 + 34);
        due("the flash", x.count(6), 34 + 12 + 3);
        due("put !", x.put(33), 1);
        due("put ~", x.put(126), 2);
        for (int part = 0; part < 9; part++) {
            due("put 8", x.put(Checks.packed("~!~!~!~!")), 10 + 8 * part);
        }
        due("put 7", x.put(Checks.packed("1234567")), TOO_MANY);
        due("put 8", x.put(Checks.packed("12345678")), TOO_MANY);
        due("put 7, one wrong", x.put(Checks.packed("12345 7")), BAD_VALUE);
        due("put(0)", x.put(0), BAD_VALUE);
        due("put 6", x.put(Checks.packed("123456")), 80);
        due("put 1", x.put('p'), TOO_MANY);
        due("put wrong", x.put(32), BAD_VALUE);
        due("full", x.count(12), 80);
    }

    private static void wipe() {
        LeaningLines x = fresh(20);
        due("empty", x.wipe(), 0);
        Checks.putText(x, "g1,1;pppp");
        due("wipe()", x.wipe(), 9);
        due("count 12", x.count(12), 0);
        due("again", x.wipe(), 0);
        due("fault", x.fault(), 0);
        Checks.putText(x, "p");
        due("no old characters", x.fault(), NONE);
        x.wipe();
        for (int part = 0; part < 10; part++) {
            Checks.putText(x, "12345678");
        }
        due("full", x.wipe(), 80);
        due("room again", x.put('p'), 1);
        due("no change", x.count(13), 0);
    }

    private static void faultOf(String text, int want) {
        LeaningLines x = fresh(21);
        Checks.putText(x, text);
        due("fault() of " + text, x.fault(), want);
        due("again", x.fault(), want);
        due("the pad stays", x.count(12), text.length());
    }

    private static void fault() {
        String[] right = {"p", "p;p", "w0", "w9", "w10", "w99", "f0.0", "f99.99", "f1.2;w3;p", "g0,0,0,0*0", "g99,99,99,99*9",
            "g1,2,3,4*5+6", "g1,2,3,4*5-60", "g1,2,3,4*5@0", "g1,2,3,4*5+0@9", "g1,2,3,4*5-99@1;p", "g1,2,3,4*5;g1,2,3,4*5"};
        for (String text : right) {
            faultOf(text, NONE);
        }
        // a text that ends too early: its length
        String[] early = {"", "g", "g1", "g10", "g1,", "g1,2", "g1,2,", "g1,2,3", "g1,2,3,", "g1,2,3,4", "g1,2,3,4*",
            "g1,2,3,4*5+", "g1,2,3,4*5-", "g1,2,3,4*5@", "g1,2,3,4*5+6@", "f", "f1", "f1.", "w", "p;", "w5;", "p;p;",
            "g1,2,3,4*5;"};
        for (String text : early) {
            faultOf(text, text.length());
        }
        // a bar stands before the character that cannot stand; what comes behind it does not matter
        String[] wrong = {"|x", "|1", "|;", "|,", "|G", "|P", "w0|0", "w0|1", "w10|0", "w99|0", "w|p", "w|-", "w|+", "w|/",
            "w|:", "w1|/", "w1|:", "w5|.", "w5|,", "w5|p", "p|p", "p|1", "p|,", "p|:", "p;|;", "p;|x", "p;|P", "f|.", "f|,",
            "f0|0", "f10|0", "f1|,", "f1.0|0", "f1.10|0", "f1.|,", "f1.2|.", "f1.2|,", "g|,", "g0|1", "g10|0", "g1|.",
            "g1|*", "g1,|,", "g1,0|1", "g1,10|0", "g1,2,0|03", "g1,2,3|*", "g1,2,3,4|,", "g1,2,3,4|@", "g1,2,3,4|+",
            "g1,2,3,4|;", "g1,2,3,0|0", "g1,2,3,4*|+", "g1,2,3,4*|/", "g1,2,3,4*|:", "g1,2,3,4*5|6", "g1,2,3,4*5|,",
            "g1,2,3,4*5|*", "g1,2,3,4*5+|+", "g1,2,3,4*5+|-", "g1,2,3,4*5-|+", "g1,2,3,4*5+|@", "g1,2,3,4*5+|;",
            "g1,2,3,4*5+0|1", "g1,2,3,4*5+10|0", "g1,2,3,4*5-0|0", "g1,2,3,4*5+6|-", "g1,2,3,4*5+6|+", "g1,2,3,4*5@|x",
            "g1,2,3,4*5@|;", "g1,2,3,4*5@1|2", "g1,2,3,4*5@1|+", "g1,2,3,4*5@1|@", "p;w3;g1,2,3,4*5;f1.2;w|f"};
        for (String text : wrong) {
            int want = text.indexOf('|');
            String plain = text.substring(0, want) + text.substring(want + 1);
            faultOf(plain, want);
            faultOf(plain + "p", want);
            faultOf(plain + ";p", want);
        }
        String many = "p;".repeat(39);
        faultOf(many + "p", NONE);
        faultOf(many + "p;", 80);
        faultOf(many + "pp", 79);
        faultOf(many + "w9", NONE);
    }

    private static void carryOut() {
        LeaningLines x = fresh(22);
        due("empty", x.carryOut(), BAD_TEXT);
        Checks.putText(x, "w5;w");
        due("a fault", x.carryOut(), BAD_TEXT);
        due("the pad stays", x.count(12), 4);
        due("nothing happened", x.count(0), 0);
        due("nothing is recorded", x.count(13), 0);
        Checks.putText(x, "7");
        due("mended", x.carryOut(), 2);
        due("the pad is empty", x.count(12), 0);
        due("the time", x.count(0), 12);
        due("one change", x.count(13), 1);
        Checks.putText(x, "g3,4,5,6*7;g1,23,16,24*9-40@0;g0,0,1,1*1+3;f8.9;w10;p");
        due("all", x.carryOut(), 6);
        due("one change", x.count(13), 2);
        int[][] things = {{3, 1004, 5, 6, 7, 100, NONE, 1000}, {1, 1023 - 176, 16, 24, 9, 60, 0, 960},
            {0, 1013, 1, 1, 1, 103, NONE, 1003}};
        due("the time", x.count(0), 12 + 10 + 34);
        due("flash", x.count(6), 20);
        due("flash ticks", x.count(7), 9);
        due("pictures", x.count(2), 1);
        for (int thing = 0; thing < 3; thing++) {
            for (int what = 0; what < 8; what++) {
                due("of(" + thing + ", " + what + ")", x.of(thing, what), things[thing][what]);
            }
        }
        // shot at 22, while the flash burns to 28: line 3 sees it in one of its ticks
        due("pixel(3, 4)", x.pixel(3, 4), 7 * (3 + 1 + 1 + 1));
        due("undo()", x.undo(), 1);
        due("all undone", x.count(0), 12);
        due("no things", x.count(1), 0);
        due("no flash", x.count(6), NONE);
        due("no picture", x.count(2), 0);
        due("the pad stays empty", x.count(12), 0);
        // a thing that comes on another one which moves counts from then on
        Checks.putText(x, "g0,0,1,1*1+10;w5;g0,9,1,1*1@0;w7");
        due("rides", x.carryOut(), 4);
        due("left of 0", x.of(0, 1), 1012);
        due("left of 1", x.of(1, 1), 1016);
        Checks.putText(x, "g0,0,1,1*1+0;g0,0,1,1*1-0@1");
        due("a speed of 0", x.carryOut(), 2);
        due("speed", x.of(2, 5), 100);
        due("speed", x.of(3, 5), 100);
        due("on", x.of(3, 6), 1);
    }

    private static void carriesOut(String text, int want, int time, int things) {
        LeaningLines x = fresh(22);
        x.thing(0, 0, 1, 1, 1);
        x.pass(3);
        Checks.putText(x, text);
        due("carryOut() of " + text, x.carryOut(), want);
        due("pad after " + text, x.count(12), 0);
        due("time after " + text, x.count(0), time);
        due("things after " + text, x.count(1), things);
        due("changes after " + text, x.count(13), 3);
        due("undo() after " + text, x.undo(), 2);
        due("undone time after " + text, x.count(0), 3);
        due("undone things after " + text, x.count(1), 1);
    }

    private static void carryOutErrors() {
        String[] wrong = {"g16,0,1,1*1", "g0,24,1,1*1", "g0,0,0,1*1", "g0,0,17,1*1", "g0,0,1,0*1", "g0,0,1,25*1", "g0,0,1,1*0",
            "g0,0,1,1*1+41", "g0,0,1,1*1-41", "g0,0,1,1*1@1", "g0,0,1,1*1@9", "f0.0", "f0.21", "w0", "g0,0,1,1*1+41@0",
            "g0,0,1,1*1+40@1", "g99,0,1,1*1", "g0,0,1,1*1-99", "f99.99"};
        for (String one : wrong) {
            carriesOut(one, 0, 3, 1);
            carriesOut("w4;" + one + ";w8;g0,0,1,1*1", 1, 7, 1);
            carriesOut("g0,0,1,1*1@0;g0,0,1,1*1@1;w2;" + one.replace("@1", "@3") + ";w8", 3, 5, 3);
        }
        String[] right = {"g15,23,16,24*9+40@0", "g0,0,1,1*1-40", "f99.20", "f0.1"};
        for (String one : right) {
            int more = one.startsWith("g") ? 1 : 0;
            carriesOut(one, 1, 3, 1 + more);
            carriesOut(one + ";w1;w99", 3, 103, 1 + more);
        }
        LeaningLines x = fresh(22);
        for (int thing = 0; thing < 7; thing++) {
            x.thing(0, 0, 1, 1, 1);
        }
        Checks.putText(x, "g1,1,1,1*1@6;w1;g2,2,2,2*2;w1");
        due("more than 8 things", x.carryOut(), 2);
        due("things", x.count(1), 8);
        due("the time", x.count(0), 1);
        passMany(x, 9990 - 1);
        Checks.putText(x, "w1;p;w1");
        due("a picture beyond 9999", x.carryOut(), 1);
        due("the time", x.count(0), 9991);
        Checks.putText(x, "w8;w1;w1");
        due("ticks beyond 9999", x.carryOut(), 1);
        due("the time", x.count(0), 9999);
        Checks.putText(x, "p");
        due("no picture", x.carryOut(), 0);
        due("no picture", x.count(2), 0);
        x.undo();
        due("that was a change, too", x.count(0), 9999);
        x.undo();
        due("this one had done something", x.count(0), 9991);
    }

    private static void undo() {
        LeaningLines x = fresh(23);
        due("nothing to undo", x.undo(), NOT_POSSIBLE);
        for (int change = 1; change <= 9; change++) {
            x.pass(change);
            due("changes", x.count(13), Math.min(6, change));
        }
        int[] times = {36, 28, 21, 15, 10, 6};
        for (int one = 0; one < 6; one++) {
            due("undo()", x.undo(), 5 - one);
            due("the time", x.count(0), times[one]);
            due("changes", x.count(13), 5 - one);
        }
        due("the oldest ones are dropped", x.undo(), NOT_POSSIBLE);
        due("the time", x.count(0), 6);
        x.pass(1);
        x.pass(2);
        due("undo()", x.undo(), 1);
        x.pass(3);
        due("changes", x.count(13), 2);
        due("undo()", x.undo(), 1);
        due("the time", x.count(0), 7);
        due("undo()", x.undo(), 0);
        due("the time", x.count(0), 6);
        due("undo()", x.undo(), NOT_POSSIBLE);
        // what returns an error records nothing
        x.set(LINE, 10);
        x.thing(0, 0, 0, 0, 0);
        x.speed(0, 0);
        x.ride(0, 0);
        x.flash(-1, 1);
        x.pass(0);
        x.carryOut();
        x.restore(0);
        x.save(0);
        x.restore(-1);
        x.put('p');
        x.wipe();
        due("changes", x.count(13), 0);
        // also what makes no difference is recorded
        x.thing(0, 0, 1, 1, 1);
        x.speed(0, 0);
        x.ride(0, NONE);
        x.set(LINE, 2);
        x.restore(0);
        due("changes", x.count(13), 5);
        x.flash(0, 1);
        x.shoot();
        due("changes", x.count(13), 6);
    }

    private static void undoneParts() {
        LeaningLines x = fresh(23);
        x.thing(0, 5, 16, 2, 5);
        x.shoot();
        Checks.putText(x, "w1");
        x.save(1);
        x.thing(1, 1, 1, 1, 1);
        x.speed(0, 30);
        x.ride(1, 0);
        x.flash(3, 4);
        x.shoot();
        x.set(JOIN, 4);
        due("set", x.undo(), 5);
        due("JOIN", x.count(11), 1);
        due("pictures", x.count(2), 2);
        due("shoot", x.undo(), 4);
        due("pictures", x.count(2), 1);
        due("the picture before", x.pixel(15, 5), 20);
        due("the time before", x.count(0), 34);
        due("the flash stays", x.count(6), 37);
        due("flash", x.undo(), 3);
        due("no flash", x.count(6), NONE);
        due("no flash", x.count(7), 0);
        due("it rides", x.of(1, 6), 0);
        due("ride", x.undo(), 2);
        due("it no longer rides", x.of(1, 6), NONE);
        due("it goes", x.of(0, 5), 130);
        due("speed", x.undo(), 1);
        due("it no longer goes", x.of(0, 5), 100);
        due("thing", x.undo(), 0);
        due("things", x.count(1), 1);
        due("it is gone", x.of(1, 0), NO_SUCH);
        due("the pad stays", x.count(12), 2);
        due("the slot stays", x.restore(1), 1);
        x.speed(0, 40);
        x.pass(10);
        x.undo();
        x.undo();
        x.pass(10);
        due("it stood all the time", x.of(0, 1), 1005);
    }

    private static void save() {
        LeaningLines x = fresh(24);
        due("save(-1)", x.save(-1), BAD_VALUE);
        due("save(2)", x.save(2), BAD_VALUE);
        for (int far : FAR) {
            due("save(far)", x.save(far), BAD_VALUE);
        }
        due("save(0)", x.save(0), 0);
        x.thing(0, 0, 1, 1, 1);
        due("save(1)", x.save(1), 1);
        x.thing(0, 0, 1, 1, 1);
        due("changes", x.count(13), 2);
        due("restore(0)", x.restore(0), 0);
        due("things", x.count(1), 0);
        due("restore(1)", x.restore(1), 1);
        due("things", x.count(1), 1);
        x.thing(0, 0, 1, 1, 1);
        x.thing(0, 0, 1, 1, 1);
        due("save(1) again", x.save(1), 3);
        x.undo();
        due("restore(1)", x.restore(1), 3);
        due("restore(0)", x.restore(0), 0);
    }

    private static void restore() {
        LeaningLines x = fresh(25);
        due("restore(-1)", x.restore(-1), BAD_VALUE);
        due("restore(2)", x.restore(2), BAD_VALUE);
        for (int far : FAR) {
            due("restore(far)", x.restore(far), BAD_VALUE);
        }
        due("restore(0)", x.restore(0), NOT_POSSIBLE);
        due("restore(1)", x.restore(1), NOT_POSSIBLE);
        due("changes", x.count(13), 0);
        x.thing(2, 3, 4, 5, 6);
        x.thing(2, 3, 4, 5, 7);
        x.speed(0, 10);
        x.ride(1, 0);
        x.shoot();
        x.flash(7, 8);
        x.set(LINE, 5);
        x.set(EXPOSE, 6);
        x.set(FLICKER, 30);
        x.set(JOIN, 2);
        x.save(1);
        int[] counts = new int[14];
        int[] pixels = new int[32];
        for (int what = 0; what < 12; what++) {
            counts[what] = x.count(what);
        }
        for (int line = 0; line < 16; line++) {
            pixels[2 * line] = x.ofLine(line, 0);
            pixels[2 * line + 1] = x.ofLine(line, 1);
        }
        x.thing(0, 0, 16, 24, 9);
        x.speed(0, -20);
        x.speed(1, -20);
        x.ride(1, NONE);
        x.flash(99, 1);
        x.set(LINE, 0);
        x.set(EXPOSE, 1);
        x.set(FLICKER, 0);
        x.set(JOIN, 3);
        x.shoot();
        Checks.putText(x, "p;p");
        due("restore(0)", x.restore(0), NOT_POSSIBLE);
        for (int time = 0; time < 2; time++) {
            due("restore(1)", x.restore(1), 2);
            for (int what = 0; what < 12; what++) {
                due("count(" + what + ")", x.count(what), counts[what]);
            }
            for (int line = 0; line < 16; line++) {
                due("columns of " + line, x.ofLine(line, 0), pixels[2 * line]);
                due("sum of " + line, x.ofLine(line, 1), pixels[2 * line + 1]);
            }
            due("the speed", x.of(0, 5), 110);
            due("the ride", x.of(1, 6), 0);
            due("where it is", x.of(1, 1), 1037);
            due("the pad stays", x.count(12), 3);
            due("a change", x.count(13), 6);
            x.pass(10);
            due("it goes on from there", x.of(1, 1), 1047);
        }
        x.undo();
        due("undo of restore", x.undo(), 4);
        due("the time of before", x.count(0), 44);
        due("restore(0)", x.restore(0), NOT_POSSIBLE);
        restoredThings();
    }

    /** Numbers are given again: a thing that is back is the one that was saved, or was there, and no other. */
    private static void restoredThings() {
        LeaningLines x = fresh(25);
        int[] first = {3, 1004, 5, 6, 7, 120, NONE, 1020};
        int[] second = {9, 1010, 11, 12, 8, 70, NONE, 970};
        x.thing(3, 4, 5, 6, 7);
        x.speed(0, 20);
        x.save(0);
        x.undo();
        x.undo();
        due("another thing 0", x.thing(9, 10, 11, 12, 8), 0);
        x.speed(0, -30);
        x.save(1);
        for (int time = 0; time < 3; time++) {
            due("restore(0)", x.restore(0), 1);
            for (int what = 0; what < 8; what++) {
                due("of(0, " + what + ")", x.of(0, what), first[what]);
            }
            due("undo of restore(0)", x.undo(), 2);
            for (int what = 0; what < 8; what++) {
                due("of(0, " + what + ")", x.of(0, what), second[what]);
            }
        }
        x.restore(0);
        x.restore(1);
        due("restored the other", x.of(0, 0), 9);
        x.undo();
        due("undone", x.of(0, 0), 3);
    }
}
