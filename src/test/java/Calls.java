import java.util.Arrays;
import java.util.Set;

/** Calls that are written as texts, such as "thing(0, 4, 16, 2, 5)": so a check can tell and repeat its call. */
final class Calls {
    private static final Set<String> LOOKS = Set.of("of", "pixel", "joined", "ofLine", "count", "seen", "leans", "bent",
            "flashed", "bestFlash", "fault");

    private Calls() {
    }

    static String call(String name, long... arguments) {
        String inside = Arrays.toString(arguments);
        return name + "(" + inside.substring(1, inside.length() - 1) + ")";
    }

    /** A put() of one to eight characters. */
    static String put(String characters) {
        return call("put", Checks.packed(characters));
    }

    /** Whether a call only answers, and changes nothing. */
    static boolean isLook(String call) {
        return LOOKS.contains(nameOf(call));
    }

    static long make(LeaningLines x, String call) {
        long[] a = argumentsOf(call);
        switch (a.length) {
            case 0: return withNone(x, nameOf(call));
            case 1: return withOne(x, nameOf(call), a[0]);
            case 2: return withTwo(x, nameOf(call), Math.toIntExact(a[0]), Math.toIntExact(a[1]));
            default: return withMore(x, call, Arrays.stream(a).mapToInt(Math::toIntExact).toArray());
        }
    }

    private static String nameOf(String call) {
        return call.substring(0, call.indexOf('('));
    }

    private static long[] argumentsOf(String call) {
        String inside = call.substring(call.indexOf('(') + 1, call.length() - 1);
        return inside.isEmpty() ? new long[0] : Arrays.stream(inside.split(", ")).mapToLong(Long::parseLong).toArray();
    }

    private static long withNone(LeaningLines x, String name) {
        switch (name) {
            case "shoot": return x.shoot();
            case "bent": return x.bent();
            case "flashed": return x.flashed();
            case "wipe": return x.wipe();
            case "fault": return x.fault();
            case "carryOut": return x.carryOut();
            case "undo": return x.undo();
            default: throw new IllegalArgumentException(name + "()");
        }
    }

    private static long withOne(LeaningLines x, String name, long a) {
        if (name.equals("put")) {
            return x.put(a);
        }
        int b = Math.toIntExact(a);
        switch (name) {
            case "pass": return x.pass(b);
            case "count": return x.count(b);
            case "leans": return x.leans(b);
            case "save": return x.save(b);
            case "restore": return x.restore(b);
            default: throw new IllegalArgumentException(name + "(" + a + ")");
        }
    }

    private static long withTwo(LeaningLines x, String name, int a, int b) {
        switch (name) {
            case "set": return x.set(a, b);
            case "speed": return x.speed(a, b);
            case "ride": return x.ride(a, b);
            case "flash": return x.flash(a, b);
            case "of": return x.of(a, b);
            case "pixel": return x.pixel(a, b);
            case "joined": return x.joined(a, b);
            case "ofLine": return x.ofLine(a, b);
            case "bestFlash": return x.bestFlash(a, b);
            default: throw new IllegalArgumentException(name + "(" + a + ", " + b + ")");
        }
    }

    private static long withMore(LeaningLines x, String call, int[] a) {
        if (nameOf(call).equals("seen") && a.length == 3) {
            return x.seen(a[0], a[1], a[2]);
        }
        if (nameOf(call).equals("thing") && a.length == 5) {
            return x.thing(a[0], a[1], a[2], a[3], a[4]);
        }
        throw new IllegalArgumentException(call);
    }
}
