import java.io.IOException;
import java.io.UncheckedIOException;
import java.lang.reflect.Constructor;
import java.lang.reflect.Field;
import java.lang.reflect.Method;
import java.lang.reflect.Modifier;
import java.nio.file.Files;
import java.nio.file.Path;
import java.util.ArrayList;
import java.util.HashSet;
import java.util.List;
import java.util.Set;
import java.util.TreeSet;

/**
 * The public face: each constant with its number, the constructor, and each method with the exceptions that it
 * may throw, exactly as the document's own text lists them; and what LANGUAGE.md says of members and imports.
 */
public final class FaceTest extends Checks {
    private static final Path DOCUMENT = Path.of("../shared/DOC.md");
    private static final Path PROGRAM = Path.of("src/main/java/Plotwise.java");
    private static final int LINES_OF_THE_FACE = 14 + 1 + 38;

    public static void main(String[] args) {
        test("the document lists the whole face", () -> due(faceInDocument().size(), LINES_OF_THE_FACE));
        test("the class has this face and no more", () ->
            due(String.join("\n", new TreeSet<>(faceOfClass())), String.join("\n", new TreeSet<>(faceInDocument()))));
        test("the class is public and final", () ->
            due(Modifier.toString(Plotwise.class.getModifiers()), "public final"));
        test("the class stands on its own", () -> {
            due("super class", Plotwise.class.getSuperclass(), Object.class);
            due("interfaces", Plotwise.class.getInterfaces().length, 0);
        });
        test("what is not of the face is private", FaceTest::membersArePrivate);
        test("no private method bears the name of a public one", FaceTest::namesAreApart);
        test("the classes inside are static and not public", FaceTest::classesInside);
        test("static fields are final", FaceTest::staticFieldsAreFinal);
        test("the only import is the document's", () ->
            due(imports().toString(), "[import java.util.NoSuchElementException;]"));
        finish();
    }

    // ---- the face in the document

    private static List<String> faceInDocument() {
        List<String> face = new ArrayList<>();
        boolean isInside = false;
        for (String line : linesOf(DOCUMENT)) {
            if (line.startsWith("public final class Plotwise")) {
                isInside = true;
            } else if (line.startsWith("```")) {
                isInside = false;
            } else if (isInside && line.trim().startsWith("public ")) {
                face.add(withoutParameterNames(line.trim()));
            }
        }
        return face;
    }

    // the class file does not tell the parameters' names
    private static String withoutParameterNames(String line) {
        int open = line.indexOf('(');
        int close = line.indexOf(')');
        if (open < 0 || close < 0) {
            return line;
        }
        List<String> types = new ArrayList<>();
        for (String parameter : line.substring(open + 1, close).split(",")) {
            types.add(parameter.trim().split(" ")[0]);
        }
        return line.substring(0, open + 1) + String.join(", ", types) + line.substring(close);
    }

    // ---- the face of the class

    private static List<String> faceOfClass() {
        List<String> face = new ArrayList<>();
        for (Field field : Plotwise.class.getDeclaredFields()) {
            if (!Modifier.isPrivate(field.getModifiers())) {
                face.add(Modifier.toString(field.getModifiers()) + " " + field.getType().getSimpleName() + " "
                        + field.getName() + " = " + valueOf(field) + ";");
            }
        }
        for (Constructor<?> made : Plotwise.class.getDeclaredConstructors()) {
            face.add(Modifier.toString(made.getModifiers()) + " Plotwise" + tail(made.getParameterTypes(),
                    made.getExceptionTypes()));
        }
        for (Method method : Plotwise.class.getDeclaredMethods()) {
            if (!Modifier.isPrivate(method.getModifiers())) {
                face.add(Modifier.toString(method.getModifiers()) + " " + method.getReturnType().getSimpleName() + " "
                        + method.getName() + tail(method.getParameterTypes(), method.getExceptionTypes()));
            }
        }
        return face;
    }

    private static String tail(Class<?>[] parameters, Class<?>[] exceptions) {
        String thrown = exceptions.length == 0 ? "" : " throws " + names(exceptions);
        return "(" + names(parameters) + ")" + thrown + ";";
    }

    private static String names(Class<?>[] types) {
        List<String> names = new ArrayList<>();
        for (Class<?> type : types) {
            names.add(type.getSimpleName());
        }
        return String.join(", ", names);
    }

    private static Object valueOf(Field constant) {
        try {
            return constant.get(null);
        } catch (IllegalAccessException e) {
            throw new IllegalStateException(e);
        }
    }

    // ---- LANGUAGE.md, rules 1, 2, 4 and 5

    private static void membersArePrivate() {
        for (Field field : Plotwise.class.getDeclaredFields()) {
            due(field.getName(), isPublicOrPrivate(field.getModifiers()), true);
        }
        for (Method method : Plotwise.class.getDeclaredMethods()) {
            due(method.getName(), isPublicOrPrivate(method.getModifiers()), true);
        }
    }

    private static boolean isPublicOrPrivate(int modifiers) {
        return Modifier.isPublic(modifiers) || Modifier.isPrivate(modifiers);
    }

    private static void namesAreApart() {
        Set<String> publicNames = new HashSet<>();
        for (Method method : Plotwise.class.getMethods()) {
            publicNames.add(method.getName());
        }
        for (Method method : Plotwise.class.getDeclaredMethods()) {
            if (Modifier.isPrivate(method.getModifiers())) {
                due(method.getName(), publicNames.contains(method.getName()), false);
            }
        }
    }

    private static void classesInside() {
        for (Class<?> inside : Plotwise.class.getDeclaredClasses()) {
            int modifiers = inside.getModifiers();
            due(inside + " is static", Modifier.isStatic(modifiers), true);
            due(inside + " is hidden", Modifier.isPublic(modifiers) || Modifier.isProtected(modifiers), false);
        }
    }

    private static void staticFieldsAreFinal() {
        List<Class<?>> classes = new ArrayList<>(List.of(Plotwise.class.getDeclaredClasses()));
        classes.add(Plotwise.class);
        for (Class<?> one : classes) {
            for (Field field : one.getDeclaredFields()) {
                int modifiers = field.getModifiers();
                due(one + " " + field.getName(), !Modifier.isStatic(modifiers) || Modifier.isFinal(modifiers), true);
            }
        }
    }

    private static List<String> imports() {
        List<String> imports = new ArrayList<>();
        for (String line : linesOf(PROGRAM)) {
            if (line.trim().startsWith("import ")) {
                imports.add(line.trim());
            }
        }
        return imports;
    }

    private static List<String> linesOf(Path file) {
        try {
            return Files.readAllLines(file);
        } catch (IOException e) {
            throw new UncheckedIOException(e);
        }
    }
}
