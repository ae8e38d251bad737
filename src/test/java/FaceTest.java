import java.io.IOException;
import java.lang.reflect.Constructor;
import java.lang.reflect.Field;
import java.lang.reflect.Method;
import java.lang.reflect.Modifier;
import java.nio.file.Files;
import java.nio.file.Path;
import java.util.Arrays;
import java.util.Set;
import java.util.TreeSet;
import java.util.stream.Collectors;

/** "The public face" of ../shared/DOC.md and rule 1 of LANGUAGE.md: just those members can be seen, and no other. */
public final class FaceTest {
    private static final Due due = new Due("FaceTest");

    public static void main(String[] args) throws IOException, IllegalAccessException {
        Set<String> told = told();
        Set<String> seen = seen();
        for (String member : told) {
            due.is("the class has: " + member, seen.contains(member) ? 1 : 0, 1);
        }
        for (String member : seen) {
            due.is("the document has: " + member, told.contains(member) ? 1 : 0, 1);
        }
        due.is("public and final", HawkAsks.class.getModifiers(), Modifier.PUBLIC | Modifier.FINAL);
        due.is("a class without one above it", HawkAsks.class.getSuperclass() == Object.class ? 1 : 0, 1);
        due.is("interfaces", HawkAsks.class.getInterfaces().length, 0);
        classesInside();
        due.end();
    }

    /** The members of the document's face, without the names of parameters. */
    private static Set<String> told() throws IOException {
        String text = Files.readString(Path.of("../shared/DOC.md"));
        int start = text.indexOf("public final class HawkAsks {");
        String face = text.substring(text.indexOf('\n', start), text.indexOf("\n}", start));
        Set<String> members = new TreeSet<>();
        for (String line : face.split("\n")) {
            String member = line.trim().replaceAll(";$", "");
            if (member.startsWith("public static final int ")) {
                for (String constant : member.substring("public static final int ".length()).split(", ")) {
                    members.add("public static final int " + constant);
                }
            } else if (!member.isEmpty()) {
                members.add(member.replaceAll("\\b(int|long) \\w+(?=[,)])", "$1"));
            }
        }
        return members;
    }

    private static Set<String> seen() throws IllegalAccessException {
        Set<String> members = new TreeSet<>();
        for (Field f : HawkAsks.class.getDeclaredFields()) {
            if (!Modifier.isPrivate(f.getModifiers())) {
                members.add(Modifier.toString(f.getModifiers()) + " " + f.getType() + " " + f.getName() + " = " + f.get(null));
            }
        }
        for (Constructor<?> c : HawkAsks.class.getDeclaredConstructors()) {
            members.add(Modifier.toString(c.getModifiers()) + " HawkAsks(" + types(c.getParameterTypes()) + ")");
        }
        for (Method m : HawkAsks.class.getDeclaredMethods()) {
            if (!Modifier.isPrivate(m.getModifiers())) {
                members.add(Modifier.toString(m.getModifiers()) + " " + m.getReturnType() + " " + m.getName()
                    + "(" + types(m.getParameterTypes()) + ")");
            }
        }
        return members;
    }

    private static String types(Class<?>[] parameters) {
        return Arrays.stream(parameters).map(Class::getName).collect(Collectors.joining(", "));
    }

    private static void classesInside() {
        for (Class<?> inside : HawkAsks.class.getDeclaredClasses()) {
            int modifiers = inside.getModifiers();
            due.is(inside + " is static", Modifier.isStatic(modifiers) ? 1 : 0, 1);
            due.is(inside + " is not open", Modifier.isPublic(modifiers) || Modifier.isProtected(modifiers) ? 1 : 0, 0);
            due.is(inside + " has no class inside", inside.getDeclaredClasses().length, 0);
        }
    }
}
