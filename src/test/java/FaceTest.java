import java.lang.reflect.Constructor;
import java.lang.reflect.Field;
import java.lang.reflect.Method;
import java.lang.reflect.Modifier;
import java.util.Arrays;
import java.util.Set;
import java.util.TreeSet;
import java.util.stream.Collectors;

/** The public face as the document lists it, and LANGUAGE.md's rules 1, 2, 5 and 11 as far as classes show them. */
public final class FaceTest {
    private static final Check CHECK = new Check("FaceTest");
    private static final Set<String> FACE = Set.of("NONE", "SkyBox()", "int feed(int,int,int,int,int)", "int back(int)",
            "int read()", "int place()", "int act(int,int,int,int,int,int)", "int figure(int,int,int,int,boolean)",
            "boolean falls(int)", "boolean cell(int,int)", "boolean ground(int,int)", "int base(int,int)",
            "int birds(int,int)", "int ready(int,int)", "int away(int,int)", "int refused(int,int)",
            "int length(int,int)", "int baseIn(int,int)", "int plan(int)", "int mend(int)", "int order(int)",
            "int told(int,int)", "int out(int,int,int)", "int can(int,int,int,int,int)", "int runway(int)",
            "int count(int)");

    public static void main(String[] args) {
        CHECK.due("NONE", SkyBox.NONE, -1);
        CHECK.due("the class is public and final", SkyBox.class.getModifiers(), Modifier.PUBLIC | Modifier.FINAL);
        face();
        int classes = 1;
        oneClass(SkyBox.class);
        for (Class<?> inner : SkyBox.class.getDeclaredClasses()) {
            classes++;
            CHECK.due(inner + " is static", Modifier.isStatic(inner.getModifiers()), true);
            CHECK.due(inner + " is not public", Modifier.isPublic(inner.getModifiers()), false);
            oneClass(inner);
        }
        CHECK.due("at most 12 classes", classes <= 12, true);
        CHECK.end();
    }

    private static String types(Class<?>[] parameters) {
        return Arrays.stream(parameters).map(Class::getSimpleName).collect(Collectors.joining(",", "(", ")"));
    }

    private static void face() {
        Set<String> found = new TreeSet<>();
        for (Field field : SkyBox.class.getDeclaredFields()) {
            if (!Modifier.isPrivate(field.getModifiers())) {
                CHECK.due(field + " is a constant", field.getModifiers(), Modifier.PUBLIC | Modifier.STATIC | Modifier.FINAL);
                found.add(field.getName());
            }
        }
        for (Constructor<?> made : SkyBox.class.getDeclaredConstructors()) {
            CHECK.due(made + " is public", made.getModifiers(), Modifier.PUBLIC);
            found.add("SkyBox" + types(made.getParameterTypes()));
        }
        for (Method method : SkyBox.class.getDeclaredMethods()) {
            if (!Modifier.isPrivate(method.getModifiers())) {
                CHECK.due(method + " is public", method.getModifiers(), Modifier.PUBLIC);
                found.add(method.getReturnType() + " " + method.getName() + types(method.getParameterTypes()));
            }
        }
        for (String each : FACE) {
            CHECK.due("there is " + each, found.contains(each), true);
        }
        for (String each : found) {
            CHECK.due("the document has " + each, FACE.contains(each), true);
        }
    }

    private static void oneClass(Class<?> each) {
        Set<String> names = FACE.stream().map(line -> line.replaceAll(".* |\\(.*", "")).collect(Collectors.toSet());
        int fields = 0;
        for (Field field : each.getDeclaredFields()) {
            boolean constant = Modifier.isStatic(field.getModifiers());
            fields += constant ? 0 : 1;
            CHECK.due(field + " is final if static", !constant || Modifier.isFinal(field.getModifiers()), true);
        }
        CHECK.due(each + " has at most 20 fields", fields <= 20, true);
        for (Method method : each.getDeclaredMethods()) {
            boolean ofTheFace = Modifier.isPublic(method.getModifiers()) && each == SkyBox.class;
            CHECK.due(method + " bears a name of its own", ofTheFace || !names.contains(method.getName()), true);
            CHECK.due(method + " has at most 7 parameters", method.getParameterCount() <= 7, true);
            CHECK.due(method + " is no compiler's", method.isSynthetic(), false);
        }
    }
}
