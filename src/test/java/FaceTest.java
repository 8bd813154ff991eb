import java.io.IOException;
import java.lang.reflect.Constructor;
import java.lang.reflect.Field;
import java.lang.reflect.Method;
import java.lang.reflect.Modifier;
import java.nio.file.Files;
import java.nio.file.Path;
import java.util.Arrays;
import java.util.Set;
import java.util.TreeSet;

/** The public face is that of the document, and no method inside bears the name of one of it. */
public final class FaceTest {
    public static void main(String[] args) throws IOException {
        String document = Files.readString(Path.of("../shared/DOC.md"));
        face(document);
        namesOfPrivateMethods();
        Check.end();
    }

    private static void face(String document) {
        Set<String> want = new TreeSet<>();
        String face = document.substring(document.indexOf("```java") + 7);
        for (String line : face.substring(0, face.indexOf("```")).split("\n")) {
            String told = line.replaceAll(" =.*", "").replaceAll("[;{}]", "").strip();
            if (told.startsWith("public ") && !told.contains(" class ")) {
                want.add(told.replaceAll("(int|,) [a-z]\\w*(?=[,)])", "$1").replace(", ", ","));
            }
        }
        Set<String> got = new TreeSet<>();
        for (Method method : BookmobileRadio.class.getDeclaredMethods()) {
            note(got, method.getModifiers(), method.toString());
        }
        for (Constructor<?> constructor : BookmobileRadio.class.getDeclaredConstructors()) {
            note(got, constructor.getModifiers(), constructor.toString());
        }
        for (Field field : BookmobileRadio.class.getDeclaredFields()) {
            note(got, field.getModifiers(), field.toString());
        }
        if (!want.equals(got)) {
            Check.tell("the face is " + got + ", due is " + want);
        }
        if (!Modifier.isFinal(BookmobileRadio.class.getModifiers()) || BookmobileRadio.NONE != -1) {
            Check.tell("the class is not final, or NONE is not -1");
        }
    }

    private static void note(Set<String> got, int modifiers, String told) {
        if (!Modifier.isPrivate(modifiers)) {
            got.add(told.replace("java.lang.", "").replace("BookmobileRadio.", ""));
        }
    }

    private static void namesOfPrivateMethods() {
        Set<String> names = new TreeSet<>();
        for (Method method : BookmobileRadio.class.getMethods()) {
            names.add(method.getName());
        }
        for (Method method : BookmobileRadio.class.getDeclaredMethods()) {
            if (Modifier.isPrivate(method.getModifiers()) && names.contains(method.getName())) {
                Check.tell("the name of a public method: " + method);
            }
        }
        for (Class<?> inner : BookmobileRadio.class.getDeclaredClasses()) {
            for (Method method : inner.getDeclaredMethods()) {
                if (names.contains(method.getName())) {
                    Check.tell("the name of a public method: " + method);
                }
            }
            if (!Modifier.isStatic(inner.getModifiers())) {
                Check.tell("a class that is not static: " + Arrays.asList(inner));
            }
        }
    }
}
