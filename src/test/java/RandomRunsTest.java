/** Long runs of calls, the same ones every time, on the class and on the model: each answer must be the same. */
public final class RandomRunsTest {
    private static final int RUNS = 600;
    /** With the last call's orders and the sweep of all answers at the end, a run has at most 512 calls. */
    private static final int CALLS = 512 - 20 - 134;
    private static final int[] FAR = {Integer.MIN_VALUE, -1000, -7, -6, -5, -1, 24, 41, 100, 1 << 20, Integer.MAX_VALUE};

    private static final Checks CHECKS = new Checks("RandomRunsTest");

    private final LeaningLines program = new LeaningLines();
    private final Model model = new Model();
    private final int run;
    private int calls = 0;
    private long seed;

    private RandomRunsTest(int run) {
        this.run = run;
        this.seed = run * 7919L + 1;
    }

    public static void main(String[] args) {
        for (int run = 0; run < RUNS && CHECKS.wrong() == 0; run++) {
            new RandomRunsTest(run).go();
        }
        CHECKS.end();
    }

    private void due(String call, long got, long want) {
        calls++;
        CHECKS.due("run " + run + ": " + call, got, want);
    }

    private int below(int bound) {
        seed = seed * 6364136223846793005L + 1442695040888963407L;
        return (int) ((seed >>> 33) % bound);
    }

    /** Mostly from least to most, often at an edge, sometimes out of it. */
    private int value(int least, int most) {
        switch (below(24)) {
            case 0: return least;
            case 1: return most;
            case 2: return below(4) == 0 ? least - 1 : least;
            case 3: return below(4) == 0 ? most + 1 : most;
            case 4: return below(6) == 0 ? FAR[below(FAR.length)] : most;
            default: return least + below(most - least + 1);
        }
    }

    private int someThing() {
        int things = Math.max(1, model.count(1));
        return below(20) == 0 ? value(0, 7) : below(things);
    }

    private void go() {
        int kind = run % 5;
        if (kind == 1) {
            // near the end of the time
            for (int many = below(3); many < 101; many++) {
                due("pass(99)", program.pass(99), model.pass(99));
            }
        }
        while (calls < CALLS && CHECKS.wrong() == 0) {
            int which = below(100);
            if (kind == 2 && which < 40) {
                putOrders();
            } else if (which < 50) {
                change();
            } else if (which < 85) {
                look();
            } else {
                other();
            }
        }
        sweep();
        CHECKS.check(calls <= 512, "run " + run + " had " + calls + " calls");
    }

    private void change() {
        int a = someThing();
        switch (below(12)) {
            case 0: {
                int setting = value(0, 3);
                int[] most = {9, 20, 40, 4};
                int b = value(setting == 1 || setting == 3 ? 1 : 0, most[setting & 3]);
                due("set(" + setting + ", " + b + ")", program.set(setting, b), model.set(setting, b));
                break;
            }
            case 1:
            case 2: {
                int b = value(0, 15);
                int c = value(0, 23);
                int d = value(1, 16);
                int e = value(1, 24);
                int f = value(1, 9);
                due("thing(" + b + ", " + c + ", " + d + ", " + e + ", " + f + ")", program.thing(b, c, d, e, f),
                        model.thing(b, c, d, e, f));
                break;
            }
            case 3:
            case 4: {
                int b = below(2) == 0 ? value(-40, 40) : value(-9, 9);
                due("speed(" + a + ", " + b + ")", program.speed(a, b), model.speed(a, b));
                break;
            }
            case 5:
            case 6: {
                int b = below(6) == 0 ? -6 : value(0, Math.max(1, a) - 1);
                due("ride(" + a + ", " + b + ")", program.ride(a, b), model.ride(a, b));
                break;
            }
            case 7: {
                int b = below(2) == 0 ? value(0, 99) : value(0, 20);
                int c = value(1, 20);
                due("flash(" + b + ", " + c + ")", program.flash(b, c), model.flash(b, c));
                break;
            }
            case 8:
            case 9: {
                int b = below(2) == 0 ? value(1, 99) : value(1, 9);
                due("pass(" + b + ")", program.pass(b), model.pass(b));
                break;
            }
            default:
                due("shoot()", program.shoot(), model.shoot());
        }
    }

    private void look() {
        int a = someThing();
        int line = value(0, 15);
        int column = value(0, 23);
        int b;
        switch (below(10)) {
            case 0:
                b = value(0, 7);
                due("of(" + a + ", " + b + ")", program.of(a, b), model.of(a, b));
                break;
            case 1:
                due("pixel(" + line + ", " + column + ")", program.pixel(line, column), model.pixel(line, column));
                break;
            case 2:
                line = value(0, 15 / Math.max(1, model.count(11)));
                due("joined(" + line + ", " + column + ")", program.joined(line, column), model.joined(line, column));
                break;
            case 3:
                b = value(0, 2);
                due("ofLine(" + line + ", " + b + ")", program.ofLine(line, b), model.ofLine(line, b));
                break;
            case 4:
                b = value(0, 13);
                due("count(" + b + ")", program.count(b), model.count(b));
                break;
            case 5:
                b = value(0, 99);
                due("seen(" + line + ", " + column + ", " + b + ")", program.seen(line, column, b),
                        model.seen(line, column, b));
                break;
            case 6:
                due("leans(" + a + ")", program.leans(a), model.leans(a));
                break;
            case 7:
                if (below(3) == 0) {
                    due("bent()", program.bent(), model.bent());
                }
                break;
            case 8:
                due("flashed()", program.flashed(), model.flashed());
                break;
            default:
                b = value(1, 20);
                int c = value(0, 1);
                if (below(3) == 0) {
                    due("bestFlash(" + b + ", " + c + ")", program.bestFlash(b, c), model.bestFlash(b, c));
                }
        }
    }

    private void other() {
        int slot = below(12) == 0 ? value(0, 1) : below(2);
        switch (below(9)) {
            case 0:
            case 1:
                due("undo()", program.undo(), model.undo());
                break;
            case 2:
                due("save(" + slot + ")", program.save(slot), model.save(slot));
                break;
            case 3:
                due("restore(" + slot + ")", program.restore(slot), model.restore(slot));
                break;
            case 4:
                due("carryOut()", program.carryOut(), model.carryOut());
                break;
            case 5:
                if (below(3) == 0) {
                    due("wipe()", program.wipe(), model.wipe());
                }
                break;
            case 6: {
                long raw = seed >>> 8 * below(8);
                due("put(" + raw + ")", program.put(raw), model.put(raw));
                break;
            }
            default:
                putOrders();
        }
    }

    /** Puts one order or a few, sometimes with a wrong character, and mostly carries them out. */
    private void putOrders() {
        if (below(2) == 0) {
            due("wipe()", program.wipe(), model.wipe());
        }
        StringBuilder text = new StringBuilder();
        int many = 1 + below(5);
        for (int order = 0; order < many; order++) {
            if (order > 0 || model.count(12) > 0) {
                text.append(';');
            }
            appendOrder(text);
        }
        if (below(4) == 0) {
            text.setCharAt(below(text.length()), "0123456789gfwp,.*+-@;!~".charAt(below(23)));
        }
        if (below(12) == 0) {
            text.setLength(1 + below(text.length()));
        }
        for (int from = 0; from < text.length(); from += 8) {
            long characters = Checks.packed(text.substring(from, Math.min(text.length(), from + 8)));
            due("put(" + characters + ")", program.put(characters), model.put(characters));
        }
        due("fault() of " + text, program.fault(), model.fault());
        if (below(4) != 0) {
            due("carryOut() of " + text, program.carryOut(), model.carryOut());
        }
    }

    private int number(int least, int most) {
        return below(16) == 0 ? below(100) : Math.max(0, least + below(most - least + 1));
    }

    private void appendOrder(StringBuilder text) {
        switch (below(5)) {
            case 0:
                text.append('w').append(number(1, 99));
                break;
            case 1:
                text.append('f').append(number(0, 99)).append('.').append(number(1, 20));
                break;
            case 2:
                text.append('p');
                break;
            default:
                text.append('g').append(number(0, 15)).append(',').append(number(0, 23)).append(',').append(number(1, 16));
                text.append(',').append(number(1, 24)).append('*').append(below(20) == 0 ? 0 : 1 + below(9));
                if (below(3) != 0) {
                    text.append(below(2) == 0 ? '+' : '-').append(number(0, 40));
                }
                if (below(2) == 0) {
                    text.append('@').append(below(8) == 0 ? below(10) : below(Math.max(1, model.count(1))));
                }
        }
    }

    private void sweep() {
        for (int what = 0; what < 14; what++) {
            due("at the end count(" + what + ")", program.count(what), model.count(what));
        }
        for (int line = 0; line < 16; line++) {
            for (int what = 0; what < 3; what++) {
                due("at the end ofLine(" + line + ", " + what + ")", program.ofLine(line, what), model.ofLine(line, what));
            }
        }
        for (int thing = 0; thing < 8; thing++) {
            for (int what = 0; what < 8; what++) {
                due("at the end of(" + thing + ", " + what + ")", program.of(thing, what), model.of(thing, what));
            }
            due("at the end leans(" + thing + ")", program.leans(thing), model.leans(thing));
        }
    }
}
