import java.lang.reflect.Constructor;
import java.lang.reflect.Field;
import java.lang.reflect.Method;
import java.lang.reflect.Modifier;
import java.util.Arrays;
import java.util.HashSet;
import java.util.Set;

/** The public face, and the rules of LANGUAGE.md that can be seen from outside (1, 2, 5, 11). */
final class FaceTest {
    private static final Set<String> FACE = new HashSet<>(Arrays.asList(
        "void reset []",
        "boolean poke [int, int]",
        "boolean load [int, int, int]",
        "int peek [int]",
        "int step []",
        "int run [int]",
        "boolean setLine [int, int]",
        "int reg [int]",
        "boolean put [int, int]",
        "int waits []",
        "int lines []"));

    public static void main(String[] args) {
        Class<?> chip = TwinStackChip.class;
        Check.due("public", Modifier.isPublic(chip.getModifiers()), true);
        Check.due("final", Modifier.isFinal(chip.getModifiers()), true);
        Constructor<?>[] constructors = chip.getDeclaredConstructors();
        Check.due("constructors", constructors.length, 1);
        Check.due("the constructor is public",
            Modifier.isPublic(constructors[0].getModifiers()), true);
        Check.due("its parameters", constructors[0].getParameterCount(), 0);
        methods(chip);
        fields(chip);
        for (Class<?> inside : chip.getDeclaredClasses()) {
            Check.due(inside + " is static", Modifier.isStatic(inside.getModifiers()), true);
            Check.due(inside + " is public", Modifier.isPublic(inside.getModifiers()), false);
            fields(inside);
        }
        Check.finish();
    }

    private static void methods(Class<?> chip) {
        Set<String> names = new HashSet<>();
        for (String told : FACE) {
            names.add(told.split(" ")[1]);
        }
        int found = 0;
        for (Method method : chip.getDeclaredMethods()) {
            String[] types = Arrays.stream(method.getParameterTypes())
                .map(Class::getName).toArray(String[]::new);
            String told = method.getReturnType().getName() + " " + method.getName() + " "
                + Arrays.toString(types);
            if (Modifier.isPublic(method.getModifiers())) {
                Check.due("on the face: " + told, FACE.contains(told), true);
                found++;
            } else {
                Check.due("private: " + told, Modifier.isPrivate(method.getModifiers()), true);
                Check.due("a name of its own: " + told, names.contains(method.getName()), false);
            }
            Check.due("parameters of " + told, types.length <= 7, true);
        }
        Check.due("methods of the face", found, FACE.size());
    }

    private static void fields(Class<?> owner) {
        int own = 0;
        for (Field field : owner.getDeclaredFields()) {
            int modifiers = field.getModifiers();
            Check.due("private: " + field, Modifier.isPrivate(modifiers), true);
            if (Modifier.isStatic(modifiers)) {
                Check.due("final: " + field, Modifier.isFinal(modifiers), true);
            } else {
                own++;
            }
        }
        Check.due("few fields in " + owner, own <= 20, true);
    }
}
