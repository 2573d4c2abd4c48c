import java.io.IOException;
import java.lang.reflect.Constructor;
import java.lang.reflect.Executable;
import java.lang.reflect.Field;
import java.lang.reflect.Member;
import java.lang.reflect.Method;
import java.lang.reflect.Modifier;
import java.nio.file.Files;
import java.nio.file.Path;
import java.util.Arrays;
import java.util.Set;
import java.util.TreeSet;
import java.util.regex.Matcher;
import java.util.regex.Pattern;
import java.util.stream.Collectors;

/** The public face is what the document writes, and nothing else can be seen from outside (rule 1 of LANGUAGE.md). */
public final class FaceTest {
    private static final Path DOCUMENT = Path.of("../shared/DOC.md");
    private static final int MOST_CLASSES = 12, MOST_FIELDS = 20, MOST_PARAMETERS = 7;

    private static final Checks CHECKS = new Checks("FaceTest");

    public static void main(String[] args) throws IOException {
        Class<?> face = LeaningLines.class;
        Set<String> wanted = wanted(Files.readString(DOCUMENT));
        Set<String> there = there(face);
        CHECKS.check(wanted.size() == 1 + 10 + 1 + 24, "the document writes " + wanted);
        for (String one : wanted) {
            CHECKS.check(there.contains(one), "there is no " + one);
        }
        for (String one : there) {
            CHECKS.check(wanted.contains(one), one + " is not of the face");
        }
        insides(face);
        CHECKS.end();
    }

    /** What the document writes as the face, a line a member, without the names of the parameters. */
    private static Set<String> wanted(String document) {
        Matcher block = Pattern.compile("(?s)## The public face\\s+```java\\n(.*?)```").matcher(document);
        CHECKS.check(block.find(), "the document has no face");
        Set<String> wanted = new TreeSet<>();
        for (String line : block.group(1).split("\n")) {
            String member = line.strip().replaceAll("[;{]$", "").strip();
            if (member.contains("=")) {
                for (String one : member.replaceAll(".* int ", "").split(", ")) {
                    wanted.add("public static final int " + one);
                }
            } else if (!member.equals("}")) {
                wanted.add(member.replaceAll("(int|long) \\w+(?=[,)])", "$1"));
            }
        }
        return wanted;
    }

    /** What can be seen of the class from outside, written in the same way. */
    private static Set<String> there(Class<?> face) {
        Set<String> there = new TreeSet<>();
        there.add(Modifier.toString(face.getModifiers()) + " class " + face.getName());
        for (Constructor<?> one : face.getDeclaredConstructors()) {
            add(there, one, one.getName() + types(one));
        }
        for (Method one : face.getDeclaredMethods()) {
            add(there, one, one.getReturnType() + " " + one.getName() + types(one));
        }
        for (Field one : face.getDeclaredFields()) {
            add(there, one, one.getType() + " " + one.getName() + " = " + valueOf(one));
        }
        return there;
    }

    private static void add(Set<String> there, Member member, String told) {
        if (!Modifier.isPrivate(member.getModifiers())) {
            there.add((Modifier.toString(member.getModifiers()) + " " + told).strip());
        }
    }

    private static String types(Executable executable) {
        return Arrays.stream(executable.getParameterTypes()).map(Class::getName).collect(Collectors.joining(", ", "(", ")"));
    }

    private static String valueOf(Field field) {
        try {
            return Modifier.isPublic(field.getModifiers()) && Modifier.isStatic(field.getModifiers())
                    ? String.valueOf(field.get(null)) : "";
        } catch (IllegalAccessException thrown) {
            throw new IllegalStateException(thrown);
        }
    }

    private static void insides(Class<?> face) {
        Set<String> names = new TreeSet<>();
        for (Method one : face.getMethods()) {
            if (one.getDeclaringClass() == face) {
                names.add(one.getName());
            }
        }
        Class<?>[] insides = face.getDeclaredClasses();
        CHECKS.check(insides.length <= MOST_CLASSES, "there are " + insides.length + " classes inside");
        for (Class<?> inside : insides) {
            int modifiers = inside.getModifiers();
            CHECKS.check(Modifier.isStatic(modifiers) && !Modifier.isPublic(modifiers) && !Modifier.isProtected(modifiers),
                    inside + " is not static, or can be seen from outside");
            for (Method one : inside.getDeclaredMethods()) {
                CHECKS.check(!names.contains(one.getName()), one + " bears a name of the face");
                CHECKS.check(one.getParameterCount() <= MOST_PARAMETERS, one + " takes too many parameters");
            }
            CHECKS.check(inside.getDeclaredFields().length <= MOST_FIELDS, inside + " has too many fields");
        }
        for (Method one : face.getDeclaredMethods()) {
            CHECKS.check(!Modifier.isPrivate(one.getModifiers()) || !names.contains(one.getName()),
                    one + " bears a name of the face");
        }
    }
}
