import java.io.IOException;
import java.lang.reflect.Constructor;
import java.lang.reflect.Field;
import java.lang.reflect.Method;
import java.lang.reflect.Modifier;
import java.util.ArrayList;
import java.util.List;
import java.util.regex.Matcher;
import java.util.regex.Pattern;

/** The public face: every member as the document writes it, and no member beside them. */
public final class FaceTest {
    private static final Pattern METHOD = Pattern.compile("public (\\w+ \\w+)\\((.*)\\)(?: throws (.*))?;");
    private static final Pattern CONSTANTS = Pattern.compile("public static final int (.*);");
    private static final String CONSTRUCTOR = "public Layerbook();";
    private static final int METHODS = 25;
    private static final int NAMES = 8;

    private final Check check = new Check();
    private final List<String> methods = new ArrayList<>();
    private final List<String> constants = new ArrayList<>();

    public static void main(String[] args) throws IOException, IllegalAccessException {
        FaceTest test = new FaceTest();
        test.read(new Document().face());
        test.members();
        test.classes();
        test.check.end();
    }

    private void read(List<String> face) {
        int constructors = 0;
        for (String line : face) {
            Matcher method = METHOD.matcher(line);
            Matcher names = CONSTANTS.matcher(line);
            if (line.equals(CONSTRUCTOR)) {
                constructors++;
            } else if (names.matches()) {
                constants.addAll(List.of(names.group(1).split(", ")));
            } else if (method.matches()) {
                String thrown = method.group(3) == null ? "" : method.group(3).replace(" ", "");
                methods.add(method.group(1) + "(" + method.group(2).replaceAll(" \\w+(, )?", ",") + ") " + thrown);
            }
        }
        check.due("constructors of the document", constructors, 1);
        check.due("methods of the document", methods.size(), METHODS);
        check.due("constants of the document", constants.size(), NAMES);
    }

    private void members() throws IllegalAccessException {
        check.due("the class", Modifier.toString(Layerbook.class.getModifiers()), "public final");
        same("methods", declaredMethods(), methods);
        same("constants", declaredConstants(), constants);
        Constructor<?>[] constructors = Layerbook.class.getDeclaredConstructors();
        check.due("constructors", constructors.length, 1);
        check.due("the constructor", constructors[0].toString(), "public Layerbook()");
    }

    /** Rule 1 of LANGUAGE.md. */
    private void classes() {
        for (Class<?> inside : Layerbook.class.getDeclaredClasses()) {
            int modifiers = inside.getModifiers();
            boolean fine = Modifier.isStatic(modifiers) && !Modifier.isPublic(modifiers) && !Modifier.isProtected(modifiers);
            check.due(inside + " is static and no part of the face", Check.bit(fine), 1);
        }
        for (Method method : Layerbook.class.getDeclaredMethods()) {
            boolean hidden = Modifier.isPrivate(method.getModifiers());
            boolean named = methods.stream().anyMatch(line -> line.contains(" " + method.getName() + "("));
            check.due(method + " bears no name of the face", Check.bit(hidden && named), 0);
        }
    }

    private static List<String> declaredMethods() {
        List<String> found = new ArrayList<>();
        for (Method method : Layerbook.class.getDeclaredMethods()) {
            if (!Modifier.isPrivate(method.getModifiers())) {
                found.add(written(method));
            }
        }
        return found;
    }

    /** As read() writes the document's methods; what is not just public shows it. */
    private static String written(Method method) {
        StringBuilder line = new StringBuilder(method.getReturnType() + " " + method.getName() + "(");
        for (Class<?> type : method.getParameterTypes()) {
            line.append(type.getName()).append(',');
        }
        List<String> thrown = new ArrayList<>();
        for (Class<?> type : method.getExceptionTypes()) {
            thrown.add(type.getSimpleName());
        }
        line.append(") ").append(String.join(",", thrown));
        boolean isPublic = method.getModifiers() == Modifier.PUBLIC;
        return line + (isPublic ? "" : " is " + Modifier.toString(method.getModifiers()));
    }

    private static List<String> declaredConstants() throws IllegalAccessException {
        List<String> found = new ArrayList<>();
        for (Field field : Layerbook.class.getDeclaredFields()) {
            if (!Modifier.isPrivate(field.getModifiers())) {
                boolean constant = field.toString().startsWith("public static final int ");
                found.add(field.getName() + (constant ? " = " + field.getInt(null) : " is " + field));
            }
        }
        return found;
    }

    private void same(String what, List<String> got, List<String> want) {
        check.due(what + " beside the document's", String.join("; ", without(got, want)), "");
        check.due(what + " that are missing", String.join("; ", without(want, got)), "");
    }

    private static List<String> without(List<String> all, List<String> others) {
        List<String> rest = new ArrayList<>(all);
        rest.removeAll(others);
        return rest;
    }
}
