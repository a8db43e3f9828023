import java.io.IOException;
import java.lang.reflect.InvocationTargetException;
import java.lang.reflect.Method;
import java.lang.reflect.Modifier;
import java.nio.file.Files;
import java.nio.file.Path;
import java.util.regex.Matcher;
import java.util.regex.Pattern;

/** The answers that README.md tells behind the calls of its examples, and that it names every call. */
public final class ReadmeTest {
    private static final Pattern CALL = Pattern.compile("x\\.(\\w+)\\(((?:'.'|[^)'])*)\\);");
    private static final Check CHECK = new Check();
    private static int answersTold = 0;

    public static void main(String[] args) throws IOException, IllegalAccessException {
        String readme = Files.readString(Path.of("README.md"));
        CnfXorSolver x = null;
        for (String line : readme.split("\n")) {
            if (line.equals("CnfXorSolver x = new CnfXorSolver();")) {
                x = new CnfXorSolver();
            } else if (line.startsWith("x.")) {
                run(x, line);
            }
        }
        CHECK.due("README.md tells answers", answersTold >= 25, true);
        for (Method m : CnfXorSolver.class.getDeclaredMethods()) {
            if (Modifier.isPublic(m.getModifiers())) {
                CHECK.due("README.md names " + m.getName(), readme.contains("`" + m.getName() + "("), true);
            }
        }
        CHECK.end();
    }

    /** The calls of a line; what is told behind them is the answer of the last one. */
    private static void run(CnfXorSolver x, String line) throws IllegalAccessException {
        String answer = "";
        Matcher call = CALL.matcher(line);
        while (call.find()) {
            answer = answerOf(x, call.group(1), call.group(2));
        }
        String[] parts = line.split(" // ");
        if (parts.length > 1) {
            CHECK.due("README.md: " + parts[0].trim(), answer, parts[1].split(":")[0]);
            answersTold++;
        }
    }

    private static String answerOf(CnfXorSolver x, String name, String list) throws IllegalAccessException {
        String[] words = list.isEmpty() ? new String[0] : list.split(", ");
        Object[] arguments = new Object[words.length];
        for (int i = 0; i < words.length; i++) {
            boolean isCharacter = words[i].startsWith("'");
            arguments[i] = isCharacter ? (int) words[i].charAt(1) : Integer.parseInt(words[i]);
        }
        for (Method m : CnfXorSolver.class.getDeclaredMethods()) {
            if (m.getName().equals(name) && m.getParameterCount() == words.length) {
                try {
                    return m.invoke(x, arguments).toString();
                } catch (InvocationTargetException e) {
                    return "throws " + e.getCause().getClass().getSimpleName();
                }
            }
        }
        return "no such call";
    }
}
