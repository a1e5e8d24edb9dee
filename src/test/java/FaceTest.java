import java.io.IOException;
import java.lang.reflect.Constructor;
import java.lang.reflect.Field;
import java.lang.reflect.Method;
import java.lang.reflect.Modifier;
import java.nio.file.Files;
import java.nio.file.Path;
import java.util.Arrays;
import java.util.Set;
import java.util.TreeSet;
import java.util.regex.Matcher;
import java.util.regex.Pattern;

/** Compares what the class shows with "The public face" of the document, and with rules 1 and 2. */
final class FaceTest {
    private static final Path DOCUMENT = Path.of("..", "shared", "DOC.md");
    private static final Pattern CONSTANT = Pattern.compile("public static final int (\\w+) = (-?\\d+);");
    private static final Pattern METHOD = Pattern.compile("public int (\\w+)\\(([^)]*)\\);");
    private static int wrong = 0;

    private static void check(boolean right, String what) {
        if (!right) {
            wrong++;
            System.out.println(what);
        }
    }

    private static Set<String> dueFace() throws IOException {
        String document = Files.readString(DOCUMENT);
        int start = document.indexOf("public final class LockSimulator {");
        String face = document.substring(start, document.indexOf("```", start));
        Set<String> members = new TreeSet<>();
        Matcher constants = CONSTANT.matcher(face);
        while (constants.find()) {
            members.add(constants.group(1) + " = " + constants.group(2));
        }
        Matcher methods = METHOD.matcher(face);
        while (methods.find()) {
            String[] parameters = methods.group(2).isEmpty() ? new String[0] : methods.group(2).split(",");
            members.add(methods.group(1) + " takes " + parameters.length);
        }
        return members;
    }

    private static Set<String> shownFace() throws IllegalAccessException {
        Set<String> members = new TreeSet<>();
        for (Field field : LockSimulator.class.getDeclaredFields()) {
            if (Modifier.isPublic(field.getModifiers())) {
                int needed = Modifier.STATIC | Modifier.FINAL;
                check((field.getModifiers() & needed) == needed, field + " is no constant");
                members.add(field.getName() + " = " + field.getInt(null));
            } else {
                check(Modifier.isPrivate(field.getModifiers()), field + " is not private");
            }
        }
        for (Method method : LockSimulator.class.getDeclaredMethods()) {
            if (Modifier.isPublic(method.getModifiers())) {
                check(method.getReturnType() == int.class, method + " does not answer an int");
                check(Arrays.stream(method.getParameterTypes()).allMatch(t -> t == int.class), method + " takes others");
                members.add(method.getName() + " takes " + method.getParameterCount());
            } else {
                check(Modifier.isPrivate(method.getModifiers()), method + " is not private");
            }
        }
        return members;
    }

    private static void checkNames(Class<?> owner, Set<String> face) {
        for (Method method : owner.getDeclaredMethods()) {
            boolean faces = owner == LockSimulator.class && Modifier.isPublic(method.getModifiers());
            boolean named = face.stream().anyMatch(member -> member.startsWith(method.getName() + " takes"));
            check(faces || !named, method + " bears the name of a method of the face");
            check(method.getParameterCount() <= 7, method + " takes too many parameters");
        }
    }

    public static void main(String[] args) throws Exception {
        Set<String> due = dueFace();
        Set<String> shown = shownFace();
        check(due.size() == 49, "the document's face has " + due.size() + " members, 49 are known");
        check(shown.equals(due), "the class shows " + shown + ", due is " + due);
        check(Modifier.isFinal(LockSimulator.class.getModifiers()), "the class is not final");
        check(Modifier.isPublic(LockSimulator.class.getModifiers()), "the class is not public");
        Constructor<?>[] constructors = LockSimulator.class.getDeclaredConstructors();
        check(constructors.length == 1 && constructors[0].getParameterCount() == 0, "the constructors are others");
        checkNames(LockSimulator.class, due);
        for (Class<?> inside : LockSimulator.class.getDeclaredClasses()) {
            int modifiers = inside.getModifiers();
            check(Modifier.isStatic(modifiers), inside + " is not static");
            check(!Modifier.isPublic(modifiers) && !Modifier.isProtected(modifiers), inside + " is shown");
            check(inside.getDeclaredFields().length <= 40, inside + " has too many fields");
            checkNames(inside, due);
        }
        System.out.println(due.size() + " members of the face, " + wrong + " faults");
        if (wrong != 0) {
            System.exit(1);
        }
    }
}
