import java.util.ArrayList;
import java.util.List;
import java.util.regex.Matcher;
import java.util.regex.Pattern;

/**
 * The document once more, in its slowest and most literal form: pixel by pixel and tick by tick, with the
 * whole past of each thing kept, states copied whole, and texts read by a regular expression. RandomRunsTest
 * compares it with the class.
 */
final class Model {
    private static final int NO_SUCH = -1, BAD_VALUE = -2, BAD_TEXT = -3, TOO_MANY = -4, NOT_POSSIBLE = -5, NONE = -6;
    private static final String NUMBER = "(?:0|[1-9][0-9]?)";
    private static final String ORDER = "(?:g" + NUMBER + "," + NUMBER + "," + NUMBER + "," + NUMBER
            + "\\*[0-9](?:[+-]" + NUMBER + ")?(?:@[0-9])?|f" + NUMBER + "\\." + NUMBER + "|w" + NUMBER + "|p)";
    private static final Pattern TEXT = Pattern.compile(ORDER + "(?:;" + ORDER + ")*");
    private static final Pattern THING =
            Pattern.compile("g(\\d+),(\\d+),(\\d+),(\\d+)\\*(\\d)(?:([+-])(\\d+))?(?:@(\\d))?");

    /** How a thing is from a time on. */
    private static final class Arrival {
        final int since;
        final int left;
        final int speed;
        final int on;

        Arrival(int since, int left, int speed, int on) {
            this.since = since;
            this.left = left;
            this.speed = speed;
            this.on = on;
        }
    }

    private static final class Thing {
        final int line;
        final int high;
        final int wide;
        final int brightness;
        final List<Arrival> arrivals = new ArrayList<>();

        Thing(int line, int high, int wide, int brightness) {
            this.line = line;
            this.high = high;
            this.wide = wide;
            this.brightness = brightness;
        }

        Arrival latest() {
            return arrivals.get(arrivals.size() - 1);
        }

        Arrival at(int time) {
            Arrival found = null;
            for (Arrival one : arrivals) {
                if (one.since <= time) {
                    found = one;
                }
            }
            return found;
        }

        Thing copy() {
            Thing copy = new Thing(line, high, wide, brightness);
            copy.arrivals.addAll(arrivals);
            return copy;
        }
    }

    private static final class State {
        int time = 0;
        int pictures = 0;
        int flashTime = NONE;
        int flashTicks = 0;
        final int[] settings = {2, 4, 0, 1};
        List<Thing> things = new ArrayList<>();
        int[][] picture = new int[16][24];

        State copy() {
            State copy = new State();
            copy.time = time;
            copy.pictures = pictures;
            copy.flashTime = flashTime;
            copy.flashTicks = flashTicks;
            System.arraycopy(settings, 0, copy.settings, 0, 4);
            for (Thing one : things) {
                copy.things.add(one.copy());
            }
            for (int line = 0; line < 16; line++) {
                copy.picture[line] = picture[line].clone();
            }
            return copy;
        }
    }

    private State state = new State();
    private final List<State> past = new ArrayList<>();
    private final State[] slots = new State[2];
    private String pad = "";

    private void remember(State before) {
        past.add(before);
        if (past.size() > 6) {
            past.remove(0);
        }
    }

    private int begin(int line) {
        return state.time + line * state.settings[0];
    }

    private int left(int thing, int time) {
        Arrival arrival = state.things.get(thing).at(time);
        int left = arrival.left + (int) Math.floor(arrival.speed * (time - arrival.since) / 10.0 + 1e-9);
        if (arrival.on != NONE) {
            left += left(arrival.on, time) - left(arrival.on, arrival.since);
        }
        return left;
    }

    private int brightness(int line, int column, int time) {
        int sum = 0;
        for (int thing = 0; thing < state.things.size(); thing++) {
            Thing one = state.things.get(thing);
            int left = left(thing, time);
            if (line >= one.line && line < one.line + one.high && column >= left && column < left + one.wide) {
                sum += one.brightness;
            }
        }
        return Math.min(30, sum) * light(time);
    }

    private boolean burns(int time) {
        return state.flashTime != NONE && time >= state.flashTime && time - state.flashTime < state.flashTicks;
    }

    private int light(int time) {
        if (burns(time)) {
            return 3;
        }
        int flicker = state.settings[2];
        return flicker > 0 && time % flicker >= flicker / 2 ? 0 : 1;
    }

    private int exposed(int line, int column, int from) {
        int sum = 0;
        for (int tick = 0; tick < state.settings[1]; tick++) {
            sum += brightness(line, column, from + tick);
        }
        return sum;
    }

    int set(int setting, int value) {
        int[] least = {0, 1, 0, 1};
        int[] most = {9, 20, 40, 4};
        if (setting < 0 || setting > 3 || value < least[setting] || value > most[setting]) {
            return BAD_VALUE;
        }
        remember(state.copy());
        int previous = state.settings[setting];
        state.settings[setting] = value;
        return previous;
    }

    int thing(int line, int left, int high, int wide, int brightness) {
        State before = state.copy();
        int answer = come(line, left, high, wide, brightness);
        if (answer >= 0) {
            remember(before);
        }
        return answer;
    }

    private int come(int line, int left, int high, int wide, int brightness) {
        if (line < 0 || line > 15 || left < 0 || left > 23 || high < 1 || high > 16 || wide < 1 || wide > 24
                || brightness < 1 || brightness > 9) {
            return BAD_VALUE;
        }
        if (state.things.size() == 8) {
            return TOO_MANY;
        }
        Thing thing = new Thing(line, high, wide, brightness);
        thing.arrivals.add(new Arrival(state.time, left, 0, NONE));
        state.things.add(thing);
        return state.things.size() - 1;
    }

    private boolean noThing(int thing) {
        return thing < 0 || thing >= state.things.size();
    }

    int speed(int thing, int speed) {
        if (noThing(thing)) {
            return NO_SUCH;
        }
        if (speed < -40 || speed > 40) {
            return BAD_VALUE;
        }
        remember(state.copy());
        Thing one = state.things.get(thing);
        Arrival before = one.latest();
        one.arrivals.add(new Arrival(state.time, left(thing, state.time), speed, before.on));
        return before.speed + 100;
    }

    int ride(int thing, int on) {
        if (noThing(thing)) {
            return NO_SUCH;
        }
        if (on != NONE && (on < 0 || on >= thing)) {
            return BAD_VALUE;
        }
        remember(state.copy());
        Thing one = state.things.get(thing);
        Arrival before = one.latest();
        one.arrivals.add(new Arrival(state.time, left(thing, state.time), before.speed, on));
        return before.on;
    }

    int flash(int in, int many) {
        State before = state.copy();
        int answer = setFlash(in, many);
        if (answer >= 0) {
            remember(before);
        }
        return answer;
    }

    private int setFlash(int in, int many) {
        if (in < 0 || in > 99 || many < 1 || many > 20) {
            return BAD_VALUE;
        }
        state.flashTime = state.time + in;
        state.flashTicks = many;
        return state.flashTime;
    }

    int pass(int ticks) {
        State before = state.copy();
        int answer = goOn(ticks);
        if (answer >= 0) {
            remember(before);
        }
        return answer;
    }

    private int goOn(int ticks) {
        if (ticks < 1 || ticks > 99) {
            return BAD_VALUE;
        }
        if (state.time + ticks > 9999) {
            return NOT_POSSIBLE;
        }
        state.time += ticks;
        return state.time;
    }

    int shoot() {
        State before = state.copy();
        int answer = takePicture();
        if (answer >= 0) {
            remember(before);
        }
        return answer;
    }

    private int takePicture() {
        int end = state.time + 15 * state.settings[0] + state.settings[1];
        if (end > 9999) {
            return NOT_POSSIBLE;
        }
        int sum = 0;
        for (int line = 0; line < 16; line++) {
            for (int column = 0; column < 24; column++) {
                state.picture[line][column] = exposed(line, column, begin(line));
                sum += state.picture[line][column];
            }
        }
        state.time = end;
        state.pictures++;
        return sum;
    }

    int of(int thing, int what) {
        if (noThing(thing)) {
            return NO_SUCH;
        }
        if (what < 0 || what > 7) {
            return BAD_VALUE;
        }
        Thing one = state.things.get(thing);
        int tenths = 0;
        for (int under = thing; under != NONE; under = state.things.get(under).latest().on) {
            tenths += state.things.get(under).latest().speed;
        }
        int[] answers = {one.line, left(thing, state.time) + 1000, one.high, one.wide, one.brightness,
            one.latest().speed + 100, one.latest().on, tenths + 1000};
        return answers[what];
    }

    private static boolean noPlace(int line, int column) {
        return line < 0 || line > 15 || column < 0 || column > 23;
    }

    int pixel(int line, int column) {
        return noPlace(line, column) ? NO_SUCH : state.picture[line][column];
    }

    int joined(int line, int column) {
        if (noPlace(line, column)) {
            return NO_SUCH;
        }
        int sum = NO_SUCH;
        for (int one = 0; one < 16; one++) {
            if (one / state.settings[3] == line) {
                sum = Math.max(0, sum) + state.picture[one][column];
            }
        }
        return sum;
    }

    int ofLine(int line, int what) {
        if (noPlace(line, 0)) {
            return NO_SUCH;
        }
        if (what < 0 || what > 2) {
            return BAD_VALUE;
        }
        int columns = 0;
        int sum = 0;
        int leftmost = NONE;
        for (int column = 23; column >= 0; column--) {
            if (state.picture[line][column] > 0) {
                columns += 1 << column;
                leftmost = column;
            }
            sum += state.picture[line][column];
        }
        int[] answers = {columns, sum, leftmost};
        return answers[what];
    }

    int count(int what) {
        if (what < 0 || what > 13) {
            return BAD_VALUE;
        }
        int dark = 0;
        int brightest = 0;
        for (int line = 0; line < 16; line++) {
            int most = 0;
            for (int column = 0; column < 24; column++) {
                most = Math.max(most, state.picture[line][column]);
            }
            dark += most == 0 ? 1 << line : 0;
            brightest = Math.max(brightest, most);
        }
        int bands = 0;
        for (int line = 0; line < 15; line++) {
            bands += (dark >> line & 1) != (dark >> line + 1 & 1) ? 1 : 0;
        }
        int[] answers = {state.time, state.things.size(), state.pictures, dark, brightest, bands, state.flashTime,
            state.flashTicks, state.settings[0], state.settings[1], state.settings[2], state.settings[3], pad.length(),
            past.size()};
        return answers[what];
    }

    int seen(int line, int column, int in) {
        if (noPlace(line, column)) {
            return NO_SUCH;
        }
        return in < 0 || in > 99 ? BAD_VALUE : brightness(line, column, state.time + in);
    }

    int leans(int thing) {
        if (noThing(thing)) {
            return NO_SUCH;
        }
        Thing one = state.things.get(thing);
        return left(thing, begin(one.line + one.high - 1)) - left(thing, begin(one.line)) + 1000;
    }

    int bent() {
        int bent = 0;
        for (int line = 0; line < 16; line++) {
            for (int column = 0; column < 24; column++) {
                bent += exposed(line, column, begin(line)) != exposed(line, column, state.time) ? 1 : 0;
            }
        }
        return bent;
    }

    int flashed() {
        int lines = 0;
        for (int line = 0; line < 16; line++) {
            boolean some = false;
            for (int tick = 0; tick < state.settings[1]; tick++) {
                some |= burns(begin(line) + tick);
            }
            lines += some ? 1 << line : 0;
        }
        return lines;
    }

    int bestFlash(int many, int what) {
        if (many < 1 || many > 20 || what < 0 || what > 1) {
            return BAD_VALUE;
        }
        State kept = state;
        int[] best = {0, -1};
        for (int in = 0; in < 100; in++) {
            state = kept.copy();
            setFlash(in, many);
            int lines = Integer.bitCount(flashed());
            if (lines > best[1]) {
                best[0] = in;
                best[1] = lines;
            }
        }
        state = kept;
        return best[what];
    }

    int put(long characters) {
        StringBuilder text = new StringBuilder();
        boolean ended = false;
        for (int place = 0; place < 8; place++) {
            int code = (int) (characters >>> 8 * place) & 255;
            ended |= code == 0;
            if (ended ? code != 0 : code < 33 || code > 126) {
                return BAD_VALUE;
            }
            if (!ended) {
                text.insert(0, (char) code);
            }
        }
        if (text.length() == 0) {
            return BAD_VALUE;
        }
        if (pad.length() + text.length() > 80) {
            return TOO_MANY;
        }
        pad = pad + text;
        return pad.length();
    }

    int wipe() {
        int length = pad.length();
        pad = "";
        return length;
    }

    /** A character can stand at its place if a text could still go on behind it. */
    int fault() {
        if (TEXT.matcher(pad).matches()) {
            return NONE;
        }
        for (int end = 1; end <= pad.length(); end++) {
            Matcher matcher = TEXT.matcher(pad.substring(0, end));
            if (!matcher.matches() && !matcher.hitEnd()) {
                return end - 1;
            }
        }
        return pad.length();
    }

    int carryOut() {
        if (fault() != NONE) {
            return BAD_TEXT;
        }
        remember(state.copy());
        int many = 0;
        for (String order : pad.split(";")) {
            State before = state.copy();
            if (carriedOut(order) < 0) {
                state = before;
                break;
            }
            many++;
        }
        pad = "";
        return many;
    }

    private int carriedOut(String order) {
        String rest = order.substring(1);
        switch (order.charAt(0)) {
            case 'p':
                return takePicture();
            case 'w':
                return goOn(Integer.parseInt(rest));
            case 'f':
                String[] parts = rest.split("\\.");
                return setFlash(Integer.parseInt(parts[0]), Integer.parseInt(parts[1]));
            default:
                return comeWithAll(order);
        }
    }

    private int comeWithAll(String order) {
        Matcher matcher = THING.matcher(order);
        if (!matcher.matches()) {
            throw new IllegalStateException(order);
        }
        int[] numbers = new int[5];
        for (int group = 0; group < 5; group++) {
            numbers[group] = Integer.parseInt(matcher.group(group + 1));
        }
        int thing = come(numbers[0], numbers[1], numbers[2], numbers[3], numbers[4]);
        int speed = matcher.group(7) == null ? 0 : Integer.parseInt(matcher.group(6) + matcher.group(7));
        int on = matcher.group(8) == null ? NONE : Integer.parseInt(matcher.group(8));
        if (thing < 0) {
            return thing;
        }
        if (speed < -40 || speed > 40 || on >= thing) {
            return BAD_VALUE;
        }
        state.things.get(thing).arrivals.set(0, new Arrival(state.time, numbers[1], speed, on));
        return thing;
    }

    int undo() {
        if (past.isEmpty()) {
            return NOT_POSSIBLE;
        }
        state = past.remove(past.size() - 1);
        return past.size();
    }

    int save(int slot) {
        if (slot < 0 || slot > 1) {
            return BAD_VALUE;
        }
        slots[slot] = state.copy();
        return state.things.size();
    }

    int restore(int slot) {
        if (slot < 0 || slot > 1) {
            return BAD_VALUE;
        }
        if (slots[slot] == null) {
            return NOT_POSSIBLE;
        }
        remember(state);
        state = slots[slot].copy();
        return state.things.size();
    }
}
