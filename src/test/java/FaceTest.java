import java.lang.reflect.Constructor;
import java.lang.reflect.Field;
import java.lang.reflect.Method;
import java.lang.reflect.Modifier;
import java.util.Arrays;
import java.util.Set;
import java.util.TreeSet;
import java.util.stream.Collectors;

/** The face of the document, and no other member that can be seen from outside. */
public final class FaceTest {
    private static final String[] FACE = {
        "int fill(int,int) IllegalArgumentException IllegalStateException",
        "int letOut() IllegalStateException",
        "int turnOver() IllegalStateException",
        "int setLimit(int) IllegalArgumentException",
        "int pass(int) IllegalArgumentException",
        "int draw(int,int) IndexOutOfBoundsException IllegalStateException",
        "int throwAway(int) IndexOutOfBoundsException",
        "int samples()",
        "int lowestOf(int) IndexOutOfBoundsException",
        "int highestOf(int) IndexOutOfBoundsException",
        "int sumOf(int) IndexOutOfBoundsException",
        "int doubtOf(int) IndexOutOfBoundsException",
        "int layers()",
        "int day()",
        "int limit()",
        "int sold()",
        "int spoilt()",
        "int kindOf(int) IndexOutOfBoundsException",
        "int dampnessOf(int) IndexOutOfBoundsException",
        "int dampLayers()",
        "int layersAheadOf(int) IndexOutOfBoundsException",
        "int leastOf(int) IndexOutOfBoundsException",
        "int greatestOf(int) IndexOutOfBoundsException",
        "boolean isKnown(int) IndexOutOfBoundsException",
        "int surelyDry()",
        "int surelyDamp()",
        "int worstLayer() IllegalStateException",
        "int doubt()",
        "int leastSum(int,int) IndexOutOfBoundsException",
        "int greatestSum(int,int) IndexOutOfBoundsException",
        "int doubtBehind(int,int) IndexOutOfBoundsException",
        "int bestToLookAt() IllegalStateException",
        "int dampnessIn(int,int) IndexOutOfBoundsException IllegalArgumentException",
        "int daysUntilEven()",
        "double meanDampness()",
        "long digest()",
    };

    public static void main(String[] args) {
        Checks checks = new Checks("FaceTest");
        Class<?> silo = GrainSilo.class;
        checks.due("modifiers", Modifier.PUBLIC | Modifier.FINAL, silo.getModifiers());
        checks.due("constructors", 1, silo.getDeclaredConstructors().length);
        for (Constructor<?> made : silo.getDeclaredConstructors()) {
            checks.due("constructor", "public GrainSilo()", made.toGenericString());
        }
        Set<String> seen = new TreeSet<>();
        Set<String> names = new TreeSet<>();
        for (Method method : silo.getDeclaredMethods()) {
            if (!Modifier.isPrivate(method.getModifiers())) {
                checks.due("modifiers of " + method.getName(), Modifier.PUBLIC, method.getModifiers());
                seen.add(signatureOf(method));
                names.add(method.getName());
            }
        }
        checks.due("methods", new TreeSet<>(Arrays.asList(FACE)), seen);
        for (Method method : silo.getDeclaredMethods()) {
            if (Modifier.isPrivate(method.getModifiers())) {
                checks.due("private " + method.getName() + " is named as a public one", false, names.contains(method.getName()));
            }
        }
        for (Field field : silo.getDeclaredFields()) {
            checks.due(field.getName() + " is private", true, Modifier.isPrivate(field.getModifiers()));
            checks.due(field.getName() + " is final, if static", true,
                    !Modifier.isStatic(field.getModifiers()) || Modifier.isFinal(field.getModifiers()));
        }
        checks.finish();
    }

    private static String signatureOf(Method method) {
        String parameters = Arrays.stream(method.getParameterTypes()).map(Class::getSimpleName)
                .collect(Collectors.joining(","));
        String thrown = Arrays.stream(method.getExceptionTypes()).map(type -> " " + type.getSimpleName())
                .collect(Collectors.joining());
        return method.getReturnType().getSimpleName() + " " + method.getName() + "(" + parameters + ")" + thrown;
    }
}
