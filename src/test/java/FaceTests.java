import java.lang.reflect.Constructor;
import java.lang.reflect.Field;
import java.lang.reflect.Method;
import java.lang.reflect.Modifier;
import java.util.Arrays;
import java.util.HashSet;
import java.util.Set;
import java.util.TreeSet;

/**
 * The section "The public face": just the members that it names, with their types and the exceptions they name; and
 * what LANGUAGE.md allows of members, as far as the compiled class tells.
 */
public final class FaceTests extends Asking {
    private static final String[] FACE = {
        "int bring(int, int, int) " + INDEX + " " + ARGUMENT + " " + REFUSED,
        "int leaves(int, int) " + INDEX,
        "int bestGarden()",
        "int buy(boolean, int) " + ARGUMENT,
        "int make(int) " + ARGUMENT + " " + REFUSED,
        "int line(int) " + INDEX + " " + REFUSED,
        "int fill(int, int, int, int) " + INDEX + " " + ARGUMENT + " " + REFUSED,
        "int empty(int) " + INDEX + " " + REFUSED,
        "boolean screw(int, int) " + INDEX + " " + ARGUMENT + " " + REFUSED,
        "int unscrew(int) " + INDEX + " " + REFUSED,
        "int label(int) " + INDEX + " " + REFUSED,
        "char labelled(int, int) " + INDEX + " " + NONE,
        "int chest(int, int) " + INDEX + " " + ARGUMENT,
        "int worth(int) " + INDEX,
        "int ranked(int) " + NONE,
        "int toQuay(int) " + INDEX + " " + REFUSED,
        "int load(int) " + INDEX + " " + REFUSED,
        "int sail() " + REFUSED,
        "int cargo()",
        "int height(int) " + ARGUMENT,
        "int heightAgain(int) " + ARGUMENT,
        "int reachedIn()",
        "int setHumidity(int) " + ARGUMENT,
        "int pass(int) " + ARGUMENT,
        "boolean isWell()",
        "double meanDamp() " + ARITHMETIC,
        "float sailedShare() " + ARITHMETIC,
        "int reason(boolean) " + NONE,
        "int account(int) " + ARGUMENT,
        "int feed(char) " + STATE,
        "int perform() " + REFUSED,
        "int undo() " + STATE,
        "int save()",
        "int restore() " + STATE,
    };

    public static void main(String[] args) {
        run(FaceTests.class);
    }

    private static String told(Method method) {
        StringBuilder all = new StringBuilder();
        String parameters = Arrays.toString(Arrays.stream(method.getParameterTypes()).map(Class::getName).toArray());
        all.append(method.getReturnType().getName()).append(' ').append(method.getName());
        all.append('(').append(parameters, 1, parameters.length() - 1).append(')');
        for (Class<?> thrown : method.getExceptionTypes()) {
            all.append(' ').append(thrown.getSimpleName());
        }
        return all.toString();
    }

    private static void theMethodsOfTheFaceAndNoOthers() {
        Set<String> found = new TreeSet<>();
        for (Method method : TeaChests.class.getDeclaredMethods()) {
            if (Modifier.isPublic(method.getModifiers())) {
                found.add(told(method));
                due(false, () -> Modifier.isStatic(method.getModifiers()));
            } else if (!method.isSynthetic()) {
                due(true, () -> Modifier.isPrivate(method.getModifiers()));
            }
        }
        Set<String> wanted = new TreeSet<>(Arrays.asList(FACE));
        due(wanted, () -> found);
    }

    private static void aPublicFinalClassWithOneConstructor() {
        int modifiers = TeaChests.class.getModifiers();
        due(true, () -> Modifier.isPublic(modifiers) && Modifier.isFinal(modifiers));
        due(Object.class, TeaChests.class::getSuperclass);
        due(0, () -> TeaChests.class.getInterfaces().length);
        Constructor<?>[] constructors = TeaChests.class.getDeclaredConstructors();
        due(1, () -> constructors.length);
        due(true, () -> Modifier.isPublic(constructors[0].getModifiers()));
        due(0, constructors[0]::getParameterCount);
        due(0, () -> constructors[0].getExceptionTypes().length);
    }

    private static void nothingElseCanBeSeen() {
        for (Field field : TeaChests.class.getDeclaredFields()) {
            int modifiers = field.getModifiers();
            due(true, () -> Modifier.isPrivate(modifiers) || field.isSynthetic());
            due(true, () -> Modifier.isFinal(modifiers) || !Modifier.isStatic(modifiers));
        }
        for (Class<?> inside : TeaChests.class.getDeclaredClasses()) {
            int modifiers = inside.getModifiers();
            due(true, () -> Modifier.isStatic(modifiers));
            due(false, () -> Modifier.isPublic(modifiers) || Modifier.isProtected(modifiers));
        }
    }

    private static void noPrivateMethodBearsThatName() {
        Set<String> names = new HashSet<>();
        for (Method method : TeaChests.class.getMethods()) {
            names.add(method.getName());
        }
        for (Method method : TeaChests.class.getDeclaredMethods()) {
            if (Modifier.isPrivate(method.getModifiers())) {
                due(false, () -> names.contains(method.getName()));
            }
        }
    }

    // ---- the limits of LANGUAGE.md on the members of the class and of those inside it

    private static Set<Class<?>> allClasses() {
        Set<Class<?>> all = new HashSet<>(Arrays.asList(TeaChests.class.getDeclaredClasses()));
        all.add(TeaChests.class);
        return all;
    }

    private static boolean isConstant(Field field) {
        return Modifier.isStatic(field.getModifiers()) && Modifier.isFinal(field.getModifiers());
    }

    /** Rule 5, as far as the type of a field tells. */
    private static void staticFieldsAreConstants() {
        Set<Class<?>> kinds = new HashSet<>(Arrays.asList(int.class, long.class, boolean.class, char.class,
                String.class, int[].class, long[].class, char[].class, byte[].class));
        for (Class<?> one : allClasses()) {
            for (Field field : one.getDeclaredFields()) {
                if (!Modifier.isStatic(field.getModifiers()) || field.isSynthetic()) {
                    continue;
                }
                Class<?> type = field.getType();
                boolean isOfEnum = type.isEnum() || type.isArray() && type.getComponentType().isEnum();
                due(true, () -> isConstant(field) && (isOfEnum || kinds.contains(type)));
            }
        }
    }

    /** Rule 2. */
    private static void fieldsOfEnums() {
        Set<Class<?>> kinds = new HashSet<>(Arrays.asList(int.class, long.class, boolean.class, String.class));
        for (Class<?> one : allClasses()) {
            for (Field field : one.getDeclaredFields()) {
                if (one.isEnum() && !Modifier.isStatic(field.getModifiers())) {
                    due(true, () -> kinds.contains(field.getType()));
                }
            }
        }
    }

    /** Rule 11. */
    private static void fewClassesFieldsAndParameters() {
        due(true, () -> allClasses().size() <= 12);
        for (Class<?> one : allClasses()) {
            long fields = Arrays.stream(one.getDeclaredFields()).filter(field -> !isConstant(field)).count();
            due(true, () -> fields <= 20);
            for (Method method : one.getDeclaredMethods()) {
                due(true, () -> method.getParameterCount() <= 7);
            }
        }
    }

    /** Rule 6: none of the classes inside is an exception, and none has these methods of its own. */
    private static void noExceptionsAndNoEqualsOfItsOwn() {
        Set<String> none = new HashSet<>(Arrays.asList("equals", "hashCode", "toString"));
        for (Class<?> one : allClasses()) {
            due(false, () -> Throwable.class.isAssignableFrom(one));
            for (Method method : one.getDeclaredMethods()) {
                due(false, () -> none.contains(method.getName()));
            }
        }
    }
}
