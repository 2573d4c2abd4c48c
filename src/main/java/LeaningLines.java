import java.util.Arrays;

/**
 * A camera that exposes its lines one behind the other, and the things that move before it.
 * The document ../shared/DOC.md promises what each call answers; ../shared/LANGUAGE.md says
 * in which part of Java this file is written.
 */
public final class LeaningLines {
    public static final int NO_SUCH = -1, BAD_VALUE = -2, BAD_TEXT = -3, TOO_MANY = -4, NOT_POSSIBLE = -5, NONE = -6;
    public static final int LINE = 0, EXPOSE = 1, FLICKER = 2, JOIN = 3;

    /** What a check answers if no error applies; every error code is below it. */
    private static final int FINE = 0;

    private static final int LINES = 16;
    private static final int COLUMNS = 24;
    private static final int MOST_THINGS = 8;
    private static final int MOST_BRIGHTNESS = 9;
    private static final int MOST_SPEED = 40;
    private static final int MOST_SEEN = 30;
    private static final int MOST_TIME = 9999;
    private static final int MOST_WAIT = 99;
    private static final int MOST_FLASH = 20;
    private static final int FLASH_LIGHT = 3;
    private static final int MOST_HISTORY = 6;
    private static final int SLOTS = 2;
    private static final int MOST_CHARACTERS = 80;
    private static final int CHARACTERS_AT_ONCE = 8;

    /** By setting. */
    private static final int[] LEAST_VALUES = {0, 1, 0, 1};
    private static final int[] MOST_VALUES = {9, 20, 40, 4};
    private static final int[] FIRST_VALUES = {2, 4, 0, 1};

    /** Where the values of an order "g" stand, in the order in which a text tells them. */
    private static final int ORDER_LINE = 0, ORDER_LEFT = 1, ORDER_HIGH = 2, ORDER_WIDE = 3;
    private static final int ORDER_BRIGHTNESS = 4, ORDER_SPEED = 5, ORDER_ON = 6, ORDER_VALUES = 7;
    /** Where those of an order "f" or "w" stand. */
    private static final int ORDER_FIRST = 0, ORDER_SECOND = 1;

    private final Scene scene = new Scene();
    private final Camera camera = new Camera();
    private final History history = new History();
    /** A slot in which nothing was saved holds null. */
    private final Scene[] slots = new Scene[SLOTS];
    private final Pad pad = new Pad();
    private final Reader reader = new Reader(pad);

    public LeaningLines() {
    }

    // ---- changes

    public int set(int setting, int value) {
        if (!within(setting, LINE, JOIN) || !within(value, LEAST_VALUES[setting], MOST_VALUES[setting])) {
            return BAD_VALUE;
        }
        history.record(scene);
        int previous = scene.settings[setting];
        scene.settings[setting] = value;
        return previous;
    }

    public int thing(int line, int left, int high, int wide, int brightness) {
        int error = errorOfThing(line, left, high, wide, brightness);
        if (error != FINE) {
            return error;
        }
        history.record(scene);
        return scene.things.add(line, left, high, wide, brightness, scene.time);
    }

    public int speed(int thing, int speed) {
        if (!isThing(thing)) {
            return NO_SUCH;
        }
        if (!isSpeed(speed)) {
            return BAD_VALUE;
        }
        history.record(scene);
        int previous = scene.things.speed[thing];
        scene.things.comeAnew(thing, speed, scene.things.under[thing], scene.time);
        return previous + 100;
    }

    public int ride(int thing, int on) {
        if (!isThing(thing)) {
            return NO_SUCH;
        }
        if (!canRide(thing, on)) {
            return BAD_VALUE;
        }
        history.record(scene);
        int previous = scene.things.under[thing];
        scene.things.comeAnew(thing, scene.things.speed[thing], on, scene.time);
        return previous;
    }

    public int flash(int in, int many) {
        int error = errorOfFlash(in, many);
        if (error != FINE) {
            return error;
        }
        history.record(scene);
        scene.setFlash(in, many);
        return scene.flashTime;
    }

    public int pass(int ticks) {
        int error = errorOfPass(ticks);
        if (error != FINE) {
            return error;
        }
        history.record(scene);
        scene.time += ticks;
        return scene.time;
    }

    public int shoot() {
        int error = errorOfShoot();
        if (error != FINE) {
            return error;
        }
        history.record(scene);
        camera.takePicture(scene);
        return scene.picture.sumOfAll();
    }

    // ---- what there is

    public int of(int thing, int what) {
        if (!isThing(thing)) {
            return NO_SUCH;
        }
        Things things = scene.things;
        switch (what) {
            case 0: return things.line[thing];
            case 1: return things.leftAt(thing, scene.time) + 1000;
            case 2: return things.high[thing];
            case 3: return things.wide[thing];
            case 4: return things.brightness[thing];
            case 5: return things.speed[thing] + 100;
            case 6: return things.under[thing];
            case 7: return things.speedWithAllUnder(thing) + 1000;
            default: return BAD_VALUE;
        }
    }

    public int pixel(int line, int column) {
        if (!isPlace(line, column)) {
            return NO_SUCH;
        }
        return scene.picture.pixelAt(line, column);
    }

    public int joined(int line, int column) {
        int join = scene.settings[JOIN];
        if (!isPlace(line, column) || line * join >= LINES) {
            return NO_SUCH;
        }
        int end = Math.min(LINES, line * join + join);
        int sum = 0;
        for (int one = line * join; one < end; one++) {
            sum += scene.picture.pixelAt(one, column);
        }
        return sum;
    }

    public int ofLine(int line, int what) {
        if (!within(line, 0, LINES - 1)) {
            return NO_SUCH;
        }
        switch (what) {
            case 0: return scene.picture.columnsNotDark(line);
            case 1: return scene.picture.sumOfLine(line);
            case 2: return scene.picture.leftmostNotDark(line);
            default: return BAD_VALUE;
        }
    }

    public int count(int what) {
        switch (what) {
            case 0: return scene.time;
            case 1: return scene.things.many;
            case 2: return scene.pictures;
            case 3: return scene.picture.darkLines();
            case 4: return scene.picture.brightest();
            case 5: return scene.picture.bands();
            case 6: return scene.flashTime;
            case 7: return scene.flashTicks;
            case 8: return scene.settings[LINE];
            case 9: return scene.settings[EXPOSE];
            case 10: return scene.settings[FLICKER];
            case 11: return scene.settings[JOIN];
            case 12: return pad.length;
            case 13: return history.many;
            default: return BAD_VALUE;
        }
    }

    // ---- what if

    public int seen(int line, int column, int in) {
        if (!isPlace(line, column)) {
            return NO_SUCH;
        }
        if (!within(in, 0, MOST_WAIT)) {
            return BAD_VALUE;
        }
        return camera.brightnessAt(scene, line, column, scene.time + in);
    }

    public int leans(int thing) {
        if (!isThing(thing)) {
            return NO_SUCH;
        }
        Things things = scene.things;
        int top = things.line[thing];
        int lowest = top + things.high[thing] - 1;
        int leftAtTop = things.leftAt(thing, scene.beginOf(top));
        return things.leftAt(thing, scene.beginOf(lowest)) - leftAtTop + 1000;
    }

    public int bent() {
        return camera.pixelsBent(scene);
    }

    public int flashed() {
        return scene.linesFlashed(scene.flashTime, scene.flashTicks);
    }

    public int bestFlash(int many, int what) {
        if (!within(many, 1, MOST_FLASH) || !within(what, 0, 1)) {
            return BAD_VALUE;
        }
        int best = 0;
        int mostLines = 0;
        for (int in = 0; in <= MOST_WAIT; in++) {
            int lines = Integer.bitCount(scene.linesFlashed(scene.time + in, many));
            if (lines > mostLines) {
                mostLines = lines;
                best = in;
            }
        }
        return what == 0 ? best : mostLines;
    }

    // ---- texts

    public int put(long characters) {
        int many = Pad.charactersIn(characters);
        if (many == 0) {
            return BAD_VALUE;
        }
        if (pad.length + many > MOST_CHARACTERS) {
            return TOO_MANY;
        }
        pad.append(characters, many);
        return pad.length;
    }

    public int wipe() {
        int length = pad.length;
        pad.length = 0;
        return length;
    }

    public int fault() {
        return reader.findFault();
    }

    public int carryOut() {
        if (reader.findFault() != NONE) {
            return BAD_TEXT;
        }
        history.record(scene);
        int carriedOut = 0;
        reader.at = 0;
        boolean more = true;
        for (int orders = 0; more && orders < MOST_CHARACTERS; orders++) {
            more = reader.readOrder() && carryOutOrder() == FINE;
            if (more) {
                carriedOut++;
                more = reader.take(';');
            }
        }
        pad.length = 0;
        return carriedOut;
    }

    // ---- undo, saving

    public int undo() {
        if (!history.takeBack(scene)) {
            return NOT_POSSIBLE;
        }
        return history.many;
    }

    public int save(int slot) {
        if (!within(slot, 0, SLOTS - 1)) {
            return BAD_VALUE;
        }
        Scene saved = slots[slot];
        if (saved == null) {
            saved = new Scene();
            slots[slot] = saved;
        }
        saved.copyFrom(scene);
        return scene.things.many;
    }

    public int restore(int slot) {
        if (!within(slot, 0, SLOTS - 1)) {
            return BAD_VALUE;
        }
        Scene saved = slots[slot];
        if (saved == null) {
            return NOT_POSSIBLE;
        }
        history.record(scene);
        scene.copyFrom(saved);
        return scene.things.many;
    }

    // ---- checks

    private static boolean within(int value, int least, int most) {
        return value >= least && value <= most;
    }

    private static boolean isPlace(int line, int column) {
        return within(line, 0, LINES - 1) && within(column, 0, COLUMNS - 1);
    }

    private static boolean isSpeed(int speed) {
        return within(speed, -MOST_SPEED, MOST_SPEED);
    }

    private static boolean canRide(int thing, int on) {
        return on == NONE || within(on, 0, thing - 1);
    }

    private boolean isThing(int thing) {
        return within(thing, 0, scene.things.many - 1);
    }

    private int errorOfThing(int line, int left, int high, int wide, int brightness) {
        if (!isPlace(line, left) || !within(high, 1, LINES) || !within(wide, 1, COLUMNS)
                || !within(brightness, 1, MOST_BRIGHTNESS)) {
            return BAD_VALUE;
        }
        return scene.things.many < MOST_THINGS ? FINE : TOO_MANY;
    }

    private int errorOfFlash(int in, int many) {
        return within(in, 0, MOST_WAIT) && within(many, 1, MOST_FLASH) ? FINE : BAD_VALUE;
    }

    private int errorOfPass(int ticks) {
        if (!within(ticks, 1, MOST_WAIT)) {
            return BAD_VALUE;
        }
        return scene.time + ticks <= MOST_TIME ? FINE : NOT_POSSIBLE;
    }

    private int errorOfShoot() {
        return scene.endOfPicture() <= MOST_TIME ? FINE : NOT_POSSIBLE;
    }

    // ---- orders

    /** Carries out the order that was read last, and records nothing. */
    private int carryOutOrder() {
        if (reader.kind == 'g') {
            return carryOutThing();
        }
        if (reader.kind == 'f') {
            return carryOutFlash();
        }
        if (reader.kind == 'w') {
            return carryOutPass();
        }
        int error = errorOfShoot();
        if (error == FINE) {
            camera.takePicture(scene);
        }
        return error;
    }

    private int carryOutThing() {
        int[] values = reader.values;
        Things things = scene.things;
        int speed = values[ORDER_SPEED];
        int on = values[ORDER_ON];
        int error = errorOfThing(values[ORDER_LINE], values[ORDER_LEFT], values[ORDER_HIGH], values[ORDER_WIDE],
                values[ORDER_BRIGHTNESS]);
        if (error != FINE) {
            return error;
        }
        if (!isSpeed(speed) || !canRide(things.many, on)) {
            return BAD_VALUE;
        }
        int thing = things.add(values[ORDER_LINE], values[ORDER_LEFT], values[ORDER_HIGH], values[ORDER_WIDE],
                values[ORDER_BRIGHTNESS], scene.time);
        things.comeAnew(thing, speed, on, scene.time);
        return FINE;
    }

    private int carryOutFlash() {
        int in = reader.values[ORDER_FIRST];
        int many = reader.values[ORDER_SECOND];
        int error = errorOfFlash(in, many);
        if (error == FINE) {
            scene.setFlash(in, many);
        }
        return error;
    }

    private int carryOutPass() {
        int ticks = reader.values[ORDER_FIRST];
        int error = errorOfPass(ticks);
        if (error == FINE) {
            scene.time += ticks;
        }
        return error;
    }

    /** The things of a scene, by their numbers. */
    private static final class Things {
        int many;
        final int[] line = new int[MOST_THINGS];
        final int[] high = new int[MOST_THINGS];
        final int[] wide = new int[MOST_THINGS];
        final int[] brightness = new int[MOST_THINGS];
        final int[] speed = new int[MOST_THINGS];
        /** The time at which a thing came, and the left column with which it did. */
        final int[] since = new int[MOST_THINGS];
        final int[] left = new int[MOST_THINGS];
        /** That on which a thing rides (always one with a lower number), or NONE. */
        final int[] under = new int[MOST_THINGS];
        /** The left column of that one as the thing came: kept, because that one can come anew. */
        final int[] underLeft = new int[MOST_THINGS];

        /** The caller has looked whether there is room for one more. */
        int add(int itsLine, int itsLeft, int itsHigh, int itsWide, int itsBrightness, int time) {
            int thing = many;
            line[thing] = itsLine;
            high[thing] = itsHigh;
            wide[thing] = itsWide;
            brightness[thing] = itsBrightness;
            speed[thing] = 0;
            since[thing] = time;
            left[thing] = itsLeft;
            under[thing] = NONE;
            underLeft[thing] = 0;
            many++;
            return thing;
        }

        void comeAnew(int thing, int newSpeed, int newUnder, int time) {
            left[thing] = leftAt(thing, time);
            since[thing] = time;
            speed[thing] = newSpeed;
            under[thing] = newUnder;
            underLeft[thing] = leftAt(newUnder, time);
        }

        /** The ground (NONE) is always at 0. */
        int leftAt(int thing, int time) {
            int sum = 0;
            int one = thing;
            for (int steps = 0; steps < MOST_THINGS && one >= 0 && one < many; steps++) {
                sum += left[one] + Math.floorDiv(speed[one] * (time - since[one]), 10) - underLeft[one];
                one = under[one];
            }
            return sum;
        }

        int speedWithAllUnder(int thing) {
            int sum = 0;
            int one = thing;
            for (int steps = 0; steps < MOST_THINGS && one >= 0 && one < many; steps++) {
                sum += speed[one];
                one = under[one];
            }
            return sum;
        }

        boolean isInLine(int thing, int someLine) {
            return within(someLine, line[thing], line[thing] + high[thing] - 1);
        }

        void copyFrom(Things other) {
            many = other.many;
            System.arraycopy(other.line, 0, line, 0, MOST_THINGS);
            System.arraycopy(other.high, 0, high, 0, MOST_THINGS);
            System.arraycopy(other.wide, 0, wide, 0, MOST_THINGS);
            System.arraycopy(other.brightness, 0, brightness, 0, MOST_THINGS);
            System.arraycopy(other.speed, 0, speed, 0, MOST_THINGS);
            System.arraycopy(other.since, 0, since, 0, MOST_THINGS);
            System.arraycopy(other.left, 0, left, 0, MOST_THINGS);
            System.arraycopy(other.under, 0, under, 0, MOST_THINGS);
            System.arraycopy(other.underLeft, 0, underLeft, 0, MOST_THINGS);
        }
    }

    /** The pixels of a picture, line after line. */
    private static final class Picture {
        private final int[] pixels = new int[LINES * COLUMNS];

        int pixelAt(int line, int column) {
            return pixels[line * COLUMNS + column];
        }

        void putLine(int line, int[] row) {
            System.arraycopy(row, 0, pixels, line * COLUMNS, COLUMNS);
        }

        int columnsNotDark(int line) {
            int columns = 0;
            for (int column = 0; column < COLUMNS; column++) {
                if (pixelAt(line, column) != 0) {
                    columns |= 1 << column;
                }
            }
            return columns;
        }

        int sumOfLine(int line) {
            int sum = 0;
            for (int column = 0; column < COLUMNS; column++) {
                sum += pixelAt(line, column);
            }
            return sum;
        }

        int leftmostNotDark(int line) {
            for (int column = 0; column < COLUMNS; column++) {
                if (pixelAt(line, column) != 0) {
                    return column;
                }
            }
            return NONE;
        }

        int sumOfAll() {
            int sum = 0;
            for (int line = 0; line < LINES; line++) {
                sum += sumOfLine(line);
            }
            return sum;
        }

        int darkLines() {
            int lines = 0;
            for (int line = 0; line < LINES; line++) {
                if (columnsNotDark(line) == 0) {
                    lines |= 1 << line;
                }
            }
            return lines;
        }

        int brightest() {
            int most = 0;
            for (int line = 0; line < LINES; line++) {
                for (int column = 0; column < COLUMNS; column++) {
                    most = Math.max(most, pixelAt(line, column));
                }
            }
            return most;
        }

        int bands() {
            int bands = 0;
            for (int line = 1; line < LINES; line++) {
                if ((columnsNotDark(line) == 0) != (columnsNotDark(line - 1) == 0)) {
                    bands++;
                }
            }
            return bands;
        }

        void copyFrom(Picture other) {
            System.arraycopy(other.pixels, 0, pixels, 0, LINES * COLUMNS);
        }
    }

    /** All that is undone, saved and restored. */
    private static final class Scene {
        final int[] settings = FIRST_VALUES.clone();
        final Things things = new Things();
        final Picture picture = new Picture();
        int time = 0;
        int pictures = 0;
        int flashTime = NONE;
        /** 0 as long as no flash was set. */
        int flashTicks = 0;

        /** When a line of a picture that is shot now begins; also of a line beyond the picture. */
        int beginOf(int line) {
            return time + line * settings[LINE];
        }

        int endOfPicture() {
            return beginOf(LINES - 1) + settings[EXPOSE];
        }

        void setFlash(int in, int many) {
            flashTime = time + in;
            flashTicks = many;
        }

        int lightAt(int someTime) {
            if (within(someTime, flashTime, flashTime + flashTicks - 1)) {
                return FLASH_LIGHT;
            }
            int flicker = settings[FLICKER];
            if (flicker > 0 && someTime % flicker >= flicker / 2) {
                return 0;
            }
            return 1;
        }

        int linesFlashed(int from, int ticks) {
            int lines = 0;
            for (int line = 0; line < LINES; line++) {
                int begin = beginOf(line);
                if (begin < from + ticks && from < begin + settings[EXPOSE]) {
                    lines |= 1 << line;
                }
            }
            return lines;
        }

        void copyFrom(Scene other) {
            System.arraycopy(other.settings, 0, settings, 0, JOIN + 1);
            things.copyFrom(other.things);
            picture.copyFrom(other.picture);
            time = other.time;
            pictures = other.pictures;
            flashTime = other.flashTime;
            flashTicks = other.flashTicks;
        }
    }

    /** Looks at a scene. Its rows are made once, so that looking makes no objects. */
    private static final class Camera {
        private final int[] leaning = new int[COLUMNS];
        private final int[] upright = new int[COLUMNS];
        /** By how much a column is brighter than the one left of it. */
        private final int[] rises = new int[COLUMNS + 1];

        void takePicture(Scene scene) {
            for (int line = 0; line < LINES; line++) {
                exposeLine(scene, line, scene.beginOf(line), scene.settings[EXPOSE], leaning);
                scene.picture.putLine(line, leaning);
            }
            scene.time = scene.endOfPicture();
            scene.pictures++;
        }

        int pixelsBent(Scene scene) {
            int bent = 0;
            for (int line = 0; line < LINES; line++) {
                exposeLine(scene, line, scene.beginOf(line), scene.settings[EXPOSE], leaning);
                exposeLine(scene, line, scene.time, scene.settings[EXPOSE], upright);
                for (int column = 0; column < COLUMNS; column++) {
                    if (leaning[column] != upright[column]) {
                        bent++;
                    }
                }
            }
            return bent;
        }

        int brightnessAt(Scene scene, int line, int column, int time) {
            exposeLine(scene, line, time, 1, upright);
            return upright[column];
        }

        private void exposeLine(Scene scene, int line, int from, int ticks, int[] row) {
            Arrays.fill(row, 0);
            for (int time = from; time < from + ticks; time++) {
                int light = scene.lightAt(time);
                if (light != 0) {
                    findRises(scene.things, line, time);
                    addLight(light, row);
                }
            }
        }

        private void addLight(int light, int[] row) {
            int sum = 0;
            for (int column = 0; column < COLUMNS; column++) {
                sum += rises[column];
                row[column] += Math.min(MOST_SEEN, sum) * light;
            }
        }

        private void findRises(Things things, int line, int time) {
            Arrays.fill(rises, 0);
            for (int thing = 0; thing < things.many; thing++) {
                if (things.isInLine(thing, line)) {
                    int left = things.leftAt(thing, time);
                    rises[nearestEdge(left)] += things.brightness[thing];
                    rises[nearestEdge(left + things.wide[thing])] -= things.brightness[thing];
                }
            }
        }

        /** What is beyond the picture begins and ends at its edges. */
        private static int nearestEdge(int column) {
            return Math.max(0, Math.min(COLUMNS, column));
        }
    }

    /** The latest states, in a ring. A place that was never used holds null. */
    private static final class History {
        private final Scene[] states = new Scene[MOST_HISTORY];
        private int next = 0;
        int many = 0;

        void record(Scene scene) {
            Scene state = states[next];
            if (state == null) {
                state = new Scene();
                states[next] = state;
            }
            state.copyFrom(scene);
            next = next == MOST_HISTORY - 1 ? 0 : next + 1;
            many = Math.min(MOST_HISTORY, many + 1);
        }

        /** Makes the scene what it was before the latest change; false if there is none. */
        boolean takeBack(Scene scene) {
            int latest = next == 0 ? MOST_HISTORY - 1 : next - 1;
            Scene state = states[latest];
            if (many == 0 || state == null) {
                return false;
            }
            scene.copyFrom(state);
            next = latest;
            many--;
            return true;
        }
    }

    /** The text of orders. */
    private static final class Pad {
        private final char[] text = new char[MOST_CHARACTERS];
        int length = 0;

        /** How many characters a number gives; 0 if it gives none, or gives them wrongly. */
        static int charactersIn(long characters) {
            int many = 0;
            long rest = characters;
            while (many < CHARACTERS_AT_ONCE && (rest & 255) != 0) {
                if (!within((int) (rest & 255), 33, 126)) {
                    return 0;
                }
                rest >>>= 8;
                many++;
            }
            return rest == 0 ? many : 0;
        }

        /** The caller has looked whether there is room for so many more. */
        void append(long characters, int many) {
            for (int one = many - 1; one >= 0; one--) {
                text[length] = (char) ((characters >>> (8 * one)) & 255);
                length++;
            }
        }

        /** A character that is none of any order stands for the end. */
        char characterAt(int index) {
            return index >= 0 && index < length ? text[index] : ' ';
        }
    }

    /** Reads orders from left to right; where reading stops is where the fault is. */
    private static final class Reader {
        private final Pad pad;
        int at = 0;
        /** The order that was read last: its letter and its values. */
        char kind = ' ';
        final int[] values = new int[ORDER_VALUES];

        Reader(Pad pad) {
            this.pad = pad;
        }

        int findFault() {
            at = 0;
            boolean more = true;
            for (int orders = 0; more && orders < MOST_CHARACTERS; orders++) {
                if (!readOrder()) {
                    return at;
                }
                more = take(';');
            }
            return at == pad.length ? NONE : at;
        }

        boolean readOrder() {
            kind = pad.characterAt(at);
            if (take('g')) {
                return readThing();
            }
            if (take('f')) {
                return readNumber(ORDER_FIRST) && take('.') && readNumber(ORDER_SECOND);
            }
            if (take('w')) {
                return readNumber(ORDER_FIRST);
            }
            return take('p');
        }

        boolean take(char wanted) {
            if (pad.characterAt(at) != wanted) {
                return false;
            }
            at++;
            return true;
        }

        private boolean readThing() {
            values[ORDER_SPEED] = 0;
            values[ORDER_ON] = NONE;
            boolean stands = readNumber(ORDER_LINE) && take(',') && readNumber(ORDER_LEFT) && take(',')
                    && readNumber(ORDER_HIGH) && take(',') && readNumber(ORDER_WIDE) && take('*')
                    && readDigit(ORDER_BRIGHTNESS);
            boolean toTheLeft = stands && take('-');
            if (toTheLeft || stands && take('+')) {
                stands = readNumber(ORDER_SPEED);
            }
            if (toTheLeft) {
                values[ORDER_SPEED] = -values[ORDER_SPEED];
            }
            return stands && (!take('@') || readDigit(ORDER_ON));
        }

        private boolean readDigit(int which) {
            char digit = pad.characterAt(at);
            if (!isDigit(digit)) {
                return false;
            }
            values[which] = digit - '0';
            at++;
            return true;
        }

        /** A digit too many stays unread: nothing that comes behind a number can be a digit. */
        private boolean readNumber(int which) {
            if (!readDigit(which)) {
                return false;
            }
            char second = pad.characterAt(at);
            if (values[which] != 0 && isDigit(second)) {
                values[which] = values[which] * 10 + (second - '0');
                at++;
            }
            return true;
        }

        private static boolean isDigit(char character) {
            return character >= '0' && character <= '9';
        }
    }
}
