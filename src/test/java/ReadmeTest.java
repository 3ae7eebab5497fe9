import java.lang.reflect.Method;
import java.lang.reflect.Modifier;
import java.nio.file.Files;
import java.nio.file.Path;
import java.util.regex.Matcher;
import java.util.regex.Pattern;

/** README.md: its example gives the answers that it tells, and it names every call, every constant and 512. */
public final class ReadmeTest {
    private static final Due DUE = new Due("ReadmeTest");
    private static final Pattern CALL = Pattern.compile("mesh\\.(\\w+)\\((.*?)\\); +// (-?\\d+).*");
    private static final String[] CONSTANTS = {"`UNKNOWN` (-1", "`BAD_VALUE` (-2", "`FULL` (-3", "`NONE` (-5", "512"};

    public static void main(String[] args) throws Exception {
        String readme = Files.readString(Path.of("README.md"));
        example(readme);
        for (Method method : BlinkMesh.class.getDeclaredMethods()) {
            if (Modifier.isPublic(method.getModifiers())) {
                isNamed(readme, "`" + method.getName() + "(");
            }
        }
        for (String constant : CONSTANTS) {
            isNamed(readme, constant);
        }
        DUE.end();
    }

    private static void isNamed(String readme, String words) {
        DUE.is("README.md names " + words, readme.contains(words) ? 1 : 0, 1);
    }

    private static void example(String readme) throws Exception {
        BlinkMesh mesh = new BlinkMesh();
        int asked = 0;
        for (String line : readme.lines().toList()) {
            Matcher call = CALL.matcher(line);
            if (call.matches()) {
                asked++;
                String[] told = call.group(2).isEmpty() ? new String[0] : call.group(2).split(", ");
                DUE.is(line.replaceFirst(" *//.*", ""), answer(mesh, call.group(1), told),
                    Integer.parseInt(call.group(3)));
            } else {
                DUE.is("no call with its answer: " + line, line.startsWith("mesh.") ? 1 : 0, 0);
            }
        }
        DUE.is("README.md has an example", asked > 0 ? 1 : 0, 1);
    }

    private static int answer(BlinkMesh mesh, String name, String[] told) throws Exception {
        Class<?>[] kinds = new Class<?>[told.length];
        Object[] values = new Object[told.length];
        for (int at = 0; at < told.length; at++) {
            boolean number = told[at].matches("-?\\d+");
            kinds[at] = number ? int.class : boolean.class;
            values[at] = number ? (Object) Integer.valueOf(told[at]) : (Object) Boolean.valueOf(told[at]);
        }
        return (int) BlinkMesh.class.getMethod(name, kinds).invoke(mesh, values);
    }
}
