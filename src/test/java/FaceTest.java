import java.lang.reflect.Constructor;
import java.lang.reflect.Field;
import java.lang.reflect.Method;
import java.lang.reflect.Modifier;
import java.util.Arrays;
import java.util.Set;
import java.util.TreeSet;

/** The public face is that of the document, and nothing else can be seen from outside (rule 1 of LANGUAGE.md). */
public final class FaceTest {
    private static final String[] METHODS = {"set(int, int)", "thing(int, int, int, int, int)", "speed(int, int)",
        "ride(int, int)", "flash(int, int)", "pass(int)", "shoot()", "of(int, int)", "pixel(int, int)", "joined(int, int)",
        "ofLine(int, int)", "count(int)", "seen(int, int, int)", "leans(int)", "bent()", "flashed()", "bestFlash(int, int)",
        "put(long)", "wipe()", "fault()", "carryOut()", "undo()", "save(int)", "restore(int)"};
    private static final String[] CONSTANTS = {"NO_SUCH", "BAD_VALUE", "BAD_TEXT", "TOO_MANY", "NOT_POSSIBLE", "NONE", "LINE",
        "EXPOSE", "FLICKER", "JOIN"};

    private static final Checks CHECKS = new Checks("FaceTest");

    public static void main(String[] args) {
        Class<?> face = LeaningLines.class;
        CHECKS.check(face.getModifiers() == (Modifier.PUBLIC | Modifier.FINAL), "the class is not public and final");
        methods(face);
        constants(face);
        constructors(face);
        insides(face);
        CHECKS.end();
    }

    private static void same(String what, Set<String> there, String... wanted) {
        CHECKS.check(there.equals(new TreeSet<>(Arrays.asList(wanted))), what + " are " + there);
    }

    private static void methods(Class<?> face) {
        Set<String> there = new TreeSet<>();
        for (Method one : face.getDeclaredMethods()) {
            if (Modifier.isPrivate(one.getModifiers())) {
                continue;
            }
            CHECKS.check(one.getModifiers() == Modifier.PUBLIC && one.getReturnType() == int.class, one + " is not of the face");
            String types = Arrays.toString(one.getParameterTypes());
            there.add(one.getName() + "(" + types.substring(1, types.length() - 1) + ")");
        }
        same("the methods", there, METHODS);
    }

    private static void constants(Class<?> face) {
        Set<String> there = new TreeSet<>();
        for (Field one : face.getDeclaredFields()) {
            if (Modifier.isPrivate(one.getModifiers())) {
                continue;
            }
            int constant = Modifier.PUBLIC | Modifier.STATIC | Modifier.FINAL;
            CHECKS.check(one.getModifiers() == constant && one.getType() == int.class, one + " is not of the face");
            there.add(one.getName());
        }
        same("the constants", there, CONSTANTS);
    }

    private static void constructors(Class<?> face) {
        Constructor<?>[] there = face.getDeclaredConstructors();
        CHECKS.check(there.length == 1 && there[0].getModifiers() == Modifier.PUBLIC && there[0].getParameterCount() == 0,
                "the constructors are " + Arrays.toString(there));
    }

    private static void insides(Class<?> face) {
        Set<String> names = new TreeSet<>();
        for (String one : METHODS) {
            names.add(one.substring(0, one.indexOf('(')));
        }
        Class<?>[] insides = face.getDeclaredClasses();
        CHECKS.check(insides.length <= 12, "there are " + insides.length + " classes inside");
        for (Class<?> inside : insides) {
            int modifiers = inside.getModifiers();
            CHECKS.check(Modifier.isStatic(modifiers) && !Modifier.isPublic(modifiers) && !Modifier.isProtected(modifiers),
                    inside + " is not static, or can be seen from outside");
            for (Method one : inside.getDeclaredMethods()) {
                CHECKS.check(!names.contains(one.getName()), one + " bears a name of the face");
                CHECKS.check(one.getParameterCount() <= 7, one + " takes too many parameters");
            }
            CHECKS.check(inside.getDeclaredFields().length <= 20, inside + " has too many fields");
        }
        for (Method one : face.getDeclaredMethods()) {
            CHECKS.check(!Modifier.isPrivate(one.getModifiers()) || !names.contains(one.getName()),
                    one + " bears a name of the face");
        }
    }
}
