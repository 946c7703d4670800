import java.lang.reflect.Constructor;
import java.lang.reflect.Field;
import java.lang.reflect.Method;
import java.lang.reflect.Modifier;
import java.util.Set;
import java.util.TreeSet;

/** The class shows the document's face and nothing beside it (rule 1 of LANGUAGE.md). */
public final class FaceTest {
    private static final Set<String> METHODS = Set.of(
            "int rule(int,int,int,int,int)", "void clear()", "int states()", "int push(int,int)",
            "boolean pop()", "int trees()", "int nodes()", "int relative(int,int)",
            "int choice(int,int)", "int cost(int)", "boolean registers(int)", "int cover()",
            "int instruction(int,int)", "int slots()", "boolean set(int,int)", "int run()",
            "int value()");

    public static void main(String[] args) {
        constantsAreThoseOfTheDocument();
        Check.sentence("The public face");
        int modifiers = TreeCoverForge.class.getModifiers();
        Check.due("public final", Modifier.isPublic(modifiers) && Modifier.isFinal(modifiers), true);
        methodsAreThoseOfTheDocument();
        fieldsAreThoseOfTheDocument();
        nestedClassesAreStatic();
        Check.finish();
    }

    private static void constantsAreThoseOfTheDocument() {
        Check.sentence("The constants: BAD = -1");
        Check.due("BAD", TreeCoverForge.BAD, -1);
        Check.sentence("FULL = -2");
        Check.due("FULL", TreeCoverForge.FULL, -2);
        Check.sentence("NONE = -3");
        Check.due("NONE", TreeCoverForge.NONE, -3);
        Check.sentence("DIVERGES = -4");
        Check.due("DIVERGES", TreeCoverForge.DIVERGES, -4);
    }

    private static String textOf(Method method) {
        StringBuilder text = new StringBuilder(method.getReturnType() + " " + method.getName() + "(");
        for (Class<?> type : method.getParameterTypes()) {
            text.append(text.charAt(text.length() - 1) == '(' ? "" : ",").append(type);
        }
        return text.append(")").toString();
    }

    private static void methodsAreThoseOfTheDocument() {
        Set<String> open = new TreeSet<>();
        Set<String> openNames = new TreeSet<>();
        for (Method method : TreeCoverForge.class.getDeclaredMethods()) {
            if (!Modifier.isPrivate(method.getModifiers())) {
                open.add(textOf(method));
                openNames.add(method.getName());
                Check.due(method + " is public", Modifier.isPublic(method.getModifiers()), true);
                Check.due(method + " is static", Modifier.isStatic(method.getModifiers()), false);
            }
        }
        Check.due("methods " + open, open.equals(METHODS), true);
        for (Method method : TreeCoverForge.class.getDeclaredMethods()) {
            if (Modifier.isPrivate(method.getModifiers())) {
                Check.due(method + " bears a public name", openNames.contains(method.getName()), false);
            }
        }
        Constructor<?>[] constructors = TreeCoverForge.class.getDeclaredConstructors();
        Check.due("constructors", constructors.length, 1);
        Check.due("constructor's parameters", constructors[0].getParameterCount(), 0);
        Check.due("public constructor", Modifier.isPublic(constructors[0].getModifiers()), true);
    }

    private static void fieldsAreThoseOfTheDocument() {
        Set<String> open = new TreeSet<>();
        for (Field field : TreeCoverForge.class.getDeclaredFields()) {
            int modifiers = field.getModifiers();
            if (!Modifier.isPrivate(modifiers)) {
                open.add(field.getName());
                Check.due(field + " is constant", Modifier.isPublic(modifiers)
                        && Modifier.isStatic(modifiers) && field.getType() == int.class, true);
            }
            Check.due(field + " static and final", Modifier.isStatic(modifiers)
                    && !Modifier.isFinal(modifiers), false);
        }
        Check.due("fields " + open, open.equals(Set.of("BAD", "FULL", "NONE", "DIVERGES")), true);
    }

    private static void nestedClassesAreStatic() {
        for (Class<?> nested : TreeCoverForge.class.getDeclaredClasses()) {
            int modifiers = nested.getModifiers();
            Check.due(nested + " is static", Modifier.isStatic(modifiers), true);
            Check.due(nested + " is public or protected",
                    Modifier.isPublic(modifiers) || Modifier.isProtected(modifiers), false);
        }
    }
}
