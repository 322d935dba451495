import java.io.IOException;
import java.lang.reflect.Constructor;
import java.lang.reflect.Field;
import java.lang.reflect.Method;
import java.lang.reflect.Modifier;
import java.nio.file.Path;
import java.util.Arrays;
import java.util.Set;
import java.util.TreeSet;
import java.util.stream.Collectors;

/** The face as the document writes it, and no other member that can be seen from outside. */
public final class FaceTest {
    private final Checks checks = new Checks("FaceTest");
    private final Class<?> silo = GrainSilo.class;

    public static void main(String[] args) throws IOException {
        Document document = Document.read(Path.of("../shared/DOC.md"));
        FaceTest test = new FaceTest();
        test.lookAtClass();
        test.lookAtMembersOf(document);
        test.lookAtPrivateMethods();
        test.lookAtFields();
        test.checks.finish();
    }

    private void lookAtClass() {
        checks.due("modifiers of the class", Modifier.PUBLIC | Modifier.FINAL, silo.getModifiers());
        checks.due("the package of the class", "", silo.getPackageName());
        checks.due("the class above", Object.class, silo.getSuperclass());
        checks.due("interfaces", 0, silo.getInterfaces().length);
        checks.due("type parameters", 0, silo.getTypeParameters().length);
        for (Class<?> inside : silo.getDeclaredClasses()) {
            checks.due(inside.getName() + " can be seen from everywhere", false,
                    Modifier.isPublic(inside.getModifiers()) || Modifier.isProtected(inside.getModifiers()));
        }
    }

    private void lookAtMembersOf(Document document) {
        checks.due("the number of members that the document writes out", 37, document.face().size());
        Set<String> due = document.face().stream().map(FaceTest::withoutNames)
                .collect(Collectors.toCollection(TreeSet::new));
        Set<String> seen = new TreeSet<>();
        for (Constructor<?> made : silo.getDeclaredConstructors()) {
            if (!Modifier.isPrivate(made.getModifiers())) {
                seen.add(made.toString());
            }
        }
        for (Method method : silo.getDeclaredMethods()) {
            if (!Modifier.isPrivate(method.getModifiers())) {
                seen.add(signatureOf(method));
            }
        }
        checks.due("the face", due, seen);
    }

    /** "public int fill(int kind, int dampness) throws E, F" becomes "public int fill(int,int) throws E, F". */
    private static String withoutNames(String declaration) {
        int end = declaration.indexOf(')') + 1;
        String call = declaration.substring(0, end).replaceAll("(\\w+) \\w+(?=[,)])", "$1").replace(", ", ",");
        return call + declaration.substring(end);
    }

    private static String signatureOf(Method method) {
        String parameters = Arrays.stream(method.getParameterTypes()).map(Class::getSimpleName)
                .collect(Collectors.joining(","));
        String thrown = Arrays.stream(method.getExceptionTypes()).map(Class::getSimpleName)
                .collect(Collectors.joining(", "));
        return Modifier.toString(method.getModifiers()) + " " + method.getReturnType().getSimpleName() + " "
                + method.getName() + "(" + parameters + ")" + (thrown.isEmpty() ? "" : " throws " + thrown);
    }

    private void lookAtPrivateMethods() {
        Set<String> publicNames = Arrays.stream(silo.getMethods()).map(Method::getName).collect(Collectors.toSet());
        for (Method method : silo.getDeclaredMethods()) {
            if (Modifier.isPrivate(method.getModifiers())) {
                checks.due("private " + method.getName() + " is named as a public one", false,
                        publicNames.contains(method.getName()));
            }
        }
    }

    private void lookAtFields() {
        for (Field field : silo.getDeclaredFields()) {
            checks.due(field.getName() + " is private", true, Modifier.isPrivate(field.getModifiers()));
            checks.due(field.getName() + " is final, if static", true,
                    !Modifier.isStatic(field.getModifiers()) || Modifier.isFinal(field.getModifiers()));
        }
    }
}
