import java.io.IOException;
import java.lang.reflect.Constructor;
import java.lang.reflect.Executable;
import java.lang.reflect.Field;
import java.lang.reflect.Member;
import java.lang.reflect.Method;
import java.lang.reflect.Modifier;
import java.nio.file.Files;
import java.nio.file.Path;
import java.util.ArrayList;
import java.util.List;
import java.util.TreeSet;
import java.util.stream.Collectors;
import java.util.stream.Stream;

/** The document's section "The public face", line by line, against what the class shows; and rule 1 of LANGUAGE.md. */
public final class FaceTest {

    private static final Path DOCUMENT = Path.of("../shared/DOC.md");
    private static final Check check = new Check();

    public static void main(String[] args) throws IOException, IllegalAccessException {
        List<String> promised = promisedFace();
        List<String> shown = shownFace();
        check.due("whether the document tells a face", 1, () -> promised.size() > 2 ? 1 : 0);
        for (String line : promised) {
            check.due("how often the class shows: " + line, 1, () -> count(shown, line));
        }
        for (String line : shown) {
            check.due("how often the document promises: " + line, 1, () -> count(promised, line));
        }
        nothingElseIsVisible();
        noPrivateNameIsAPublicOne();
        check.finish("FaceTest");
    }

    private static long count(List<String> lines, String wanted) {
        return lines.stream().filter(wanted::equals).count();
    }

    /** The lines of the document's interface, without the names of the parameters. */
    private static List<String> promisedFace() throws IOException {
        List<String> face = new ArrayList<>();
        boolean inside = false;
        for (String line : Files.readAllLines(DOCUMENT)) {
            if (line.startsWith("```")) {
                inside = line.equals("```java");
            } else if (inside && line.contains("public ")) {
                face.add(line.strip().replaceAll("(int|long|boolean) \\w+([,)])", "$1$2"));
            }
        }
        return face;
    }

    private static List<String> shownFace() throws IllegalAccessException {
        List<String> face = new ArrayList<>();
        face.add(Modifier.toString(CurbCars.class.getModifiers()) + " class CurbCars" + parents() + " {");
        for (Field f : CurbCars.class.getDeclaredFields()) {
            if (Modifier.isPublic(f.getModifiers())) {
                String value = Modifier.isStatic(f.getModifiers()) ? " = " + f.get(null) : "";
                face.add(Modifier.toString(f.getModifiers()) + " " + f.getType().getSimpleName() + " " + f.getName() + value + ";");
            }
        }
        for (Constructor<?> c : CurbCars.class.getDeclaredConstructors()) {
            if (Modifier.isPublic(c.getModifiers())) {
                face.add("public CurbCars" + parametersAndThrows(c) + ";");
            }
        }
        for (Method m : CurbCars.class.getDeclaredMethods()) {
            if (Modifier.isPublic(m.getModifiers())) {
                face.add(Modifier.toString(m.getModifiers()) + " " + m.getReturnType().getSimpleName() + " " + m.getName()
                    + parametersAndThrows(m) + ";");
            }
        }
        return face;
    }

    private static String parents() {
        StringBuilder parents = new StringBuilder();
        if (CurbCars.class.getSuperclass() != Object.class) {
            parents.append(" extends ").append(CurbCars.class.getSuperclass().getSimpleName());
        }
        for (Class<?> each : CurbCars.class.getInterfaces()) {
            parents.append(" implements ").append(each.getSimpleName());
        }
        return parents.toString();
    }

    private static String parametersAndThrows(Executable e) {
        String thrown = names(e.getExceptionTypes());
        return "(" + names(e.getParameterTypes()) + ")" + (thrown.isEmpty() ? "" : " throws " + thrown);
    }

    private static String names(Class<?>[] types) {
        return Stream.of(types).map(Class::getSimpleName).collect(Collectors.joining(", "));
    }

    private static List<Member> members(Class<?> of) {
        List<Member> members = new ArrayList<>();
        members.addAll(List.of(of.getDeclaredFields()));
        members.addAll(List.of(of.getDeclaredConstructors()));
        members.addAll(List.of(of.getDeclaredMethods()));
        members.removeIf(Member::isSynthetic);
        return members;
    }

    private static void nothingElseIsVisible() {
        for (Member m : members(CurbCars.class)) {
            int mark = m.getModifiers();
            check.due(m.getName() + " is public or private", 1, () -> Modifier.isPublic(mark) || Modifier.isPrivate(mark) ? 1 : 0);
        }
        for (Class<?> inside : CurbCars.class.getDeclaredClasses()) {
            int mark = inside.getModifiers();
            check.due(inside + " is not shown", 1, () -> Modifier.isPublic(mark) || Modifier.isProtected(mark) ? 0 : 1);
        }
    }

    private static void noPrivateNameIsAPublicOne() {
        TreeSet<String> names = new TreeSet<>();
        for (Method m : CurbCars.class.getMethods()) {
            names.add(m.getName());
        }
        List<Class<?>> all = new ArrayList<>(List.of(CurbCars.class.getDeclaredClasses()));
        all.add(CurbCars.class);
        for (Class<?> each : all) {
            for (Member m : members(each)) {
                if (m instanceof Method && Modifier.isPrivate(m.getModifiers())) {
                    check.due(each + ": " + m.getName() + " is no name of a public method", 1,
                        () -> names.contains(m.getName()) ? 0 : 1);
                }
            }
        }
    }
}
