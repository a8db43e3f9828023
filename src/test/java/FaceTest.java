import java.io.IOException;
import java.lang.reflect.Constructor;
import java.lang.reflect.Field;
import java.lang.reflect.Method;
import java.lang.reflect.Modifier;
import java.nio.charset.StandardCharsets;
import java.nio.file.Files;
import java.nio.file.Path;
import java.util.Arrays;
import java.util.TreeSet;

/** The face of the document, no more and no less, and some rules of LANGUAGE.md that a text shows. */
public final class FaceTest {
    private static final Check CHECK = new Check();
    public static void main(String[] args) throws IOException {
        publicMethods();
        otherMembers();
        innerClasses();
        source();
        CHECK.end();
    }

    /** The lines of the document's face that tell a method, without the names of the parameters. */
    private static TreeSet<String> facesOfDocument() throws IOException {
        TreeSet<String> faces = new TreeSet<>();
        for (String line : Files.readString(Path.of("../shared/DOC.md")).split("\n")) {
            if (line.matches("    public (int|boolean) \\w+\\(.*;")) {
                String face = line.trim().replaceAll("^public |;$", "").replaceAll("int \\w+([,)])", "int$1");
                faces.add(face.contains(" throws ") ? face : face + " throws ");
            }
        }
        return faces;
    }

    private static String face(Method m) {
        StringBuilder parameters = new StringBuilder();
        for (Class<?> c : m.getParameterTypes()) {
            parameters.append(parameters.length() == 0 ? "" : ", ").append(c.getName());
        }
        StringBuilder thrown = new StringBuilder();
        for (Class<?> c : m.getExceptionTypes()) {
            thrown.append(thrown.length() == 0 ? "" : ", ").append(c.getSimpleName());
        }
        return m.getReturnType().getName() + " " + m.getName() + "(" + parameters + ") throws " + thrown;
    }

    private static void publicMethods() throws IOException {
        TreeSet<String> want = facesOfDocument();
        CHECK.due("methods in the document", want.size(), 34);
        TreeSet<String> got = new TreeSet<>();
        TreeSet<String> publicNames = new TreeSet<>();
        TreeSet<String> privateNames = new TreeSet<>();
        for (Method m : CnfXorSolver.class.getDeclaredMethods()) {
            if (Modifier.isPublic(m.getModifiers())) {
                publicNames.add(m.getName());
                got.add(face(m));
            } else {
                CHECK.due("rule 1: private is " + m.getName(), Modifier.isPrivate(m.getModifiers()), true);
                privateNames.add(m.getName());
            }
        }
        CHECK.due("the public methods", got.toString(), want.toString());
        privateNames.retainAll(publicNames);
        CHECK.due("rule 1: private methods with public names", privateNames.toString(), "[]");
    }

    private static void otherMembers() {
        int modifiers = CnfXorSolver.class.getModifiers();
        CHECK.due("the class is public and final", Modifier.isPublic(modifiers) && Modifier.isFinal(modifiers), true);
        CHECK.due("it extends nothing", CnfXorSolver.class.getSuperclass().getName(), "java.lang.Object");
        TreeSet<String> fields = new TreeSet<>();
        for (Field f : CnfXorSolver.class.getDeclaredFields()) {
            if (!Modifier.isPrivate(f.getModifiers())) {
                fields.add(Modifier.toString(f.getModifiers()) + " " + f.getType().getName() + " " + f.getName());
            }
            if (Modifier.isStatic(f.getModifiers())) {
                CHECK.due("rule 5: final is " + f.getName(), Modifier.isFinal(f.getModifiers()), true);
            }
        }
        CHECK.due("the constants", fields.toString(), "[public static final int FALSE, public static final int NONE, "
                + "public static final int TRUE, public static final int UNASSIGNED]");
        Constructor<?>[] made = CnfXorSolver.class.getDeclaredConstructors();
        CHECK.due("one constructor", made.length, 1);
        CHECK.due("it is public", Modifier.isPublic(made[0].getModifiers()), true);
        CHECK.due("it has no parameter", made[0].getParameterCount(), 0);
    }

    private static void innerClasses() {
        Class<?>[] inner = CnfXorSolver.class.getDeclaredClasses();
        CHECK.due("rule 11: at most twelve classes", inner.length <= 11, true);
        for (Class<?> c : inner) {
            int modifiers = c.getModifiers();
            CHECK.due("rule 1: static is " + c.getName(), Modifier.isStatic(modifiers), true);
            CHECK.due("rule 1: hidden is " + c.getName(),
                    !Modifier.isPublic(modifiers) && !Modifier.isProtected(modifiers), true);
            long fields = Arrays.stream(c.getDeclaredFields()).filter(f -> !Modifier.isStatic(f.getModifiers())).count();
            CHECK.due("rule 11: at most twenty fields in " + c.getName(), fields <= 20, true);
        }
    }

    private static void source() throws IOException {
        byte[] bytes = Files.readAllBytes(Path.of("src/main/java/CnfXorSolver.java"));
        String source = new String(bytes, StandardCharsets.ISO_8859_1);
        for (byte b : bytes) {
            if (b < 0) {
                CHECK.due("a sign beyond 127 in the source", b, 0);
            }
        }
        String[] banned = {"import ", "package ", "->", "::", "synchronized", "assert", "finally", "try {", "catch",
            "static {", "Exact(", ".getMessage", "protected", "@", "double", "float", "java.", "Object", "\" +", "+ \""};
        for (String word : banned) {
            CHECK.due("LANGUAGE.md rules out " + word, source.contains(word), false);
        }
    }
}
