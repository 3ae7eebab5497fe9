import java.lang.reflect.Field;
import java.lang.reflect.Method;
import java.lang.reflect.Modifier;
import java.nio.file.Files;
import java.nio.file.Path;
import java.util.Set;
import java.util.TreeSet;
import java.util.regex.Matcher;
import java.util.regex.Pattern;

/** The public face, and what can be seen of LANGUAGE.md from outside the method bodies. */
public final class FaceTest {
    private static final Due DUE = new Due("FaceTest");
    private static final String[] METHODS = {"come(int,int)", "goAway(int)", "turn(int,boolean)",
        "link(int,int,boolean)", "tune(int,int,int)", "set(int,int)", "pass(int)", "type(char)", "clearText()",
        "readMesh()", "undo()", "keep()", "restore()", "lamp(int,int)", "apart(int,int)", "next(int)", "togetherIn()",
        "reason()", "spread()", "ifLinked(int,int)", "hub()", "bestLink(int)", "count(int)"};
    private static final String[] CONSTANTS = {"UNKNOWN", "BAD_VALUE", "FULL", "NONE"};

    public static void main(String[] args) throws Exception {
        face();
        namesOfOwnMethods();
        fields();
        words();
        room();
        DUE.end();
    }

    private static void face() throws Exception {
        DUE.is("public final", BlinkMesh.class.getModifiers(), Modifier.PUBLIC | Modifier.FINAL);
        DUE.is("constructors", BlinkMesh.class.getDeclaredConstructors().length, 1);
        DUE.is("the constructor's kind", BlinkMesh.class.getDeclaredConstructor().getModifiers(), Modifier.PUBLIC);
        Set<String> methods = new TreeSet<>();
        for (Method method : BlinkMesh.class.getDeclaredMethods()) {
            String name = method.toString().replaceFirst(".*BlinkMesh\\.", "");
            if (method.getModifiers() == Modifier.PUBLIC && method.getReturnType() == int.class) {
                methods.add(name);
            } else {
                DUE.is(name + " is private", method.getModifiers() & Modifier.PRIVATE, Modifier.PRIVATE);
            }
        }
        DUE.is("methods: " + methods, methods.equals(Set.of(METHODS)) ? 1 : 0, 1);
        Set<String> constants = new TreeSet<>();
        int kind = Modifier.PUBLIC | Modifier.STATIC | Modifier.FINAL;
        for (Field field : BlinkMesh.class.getDeclaredFields()) {
            if (field.getModifiers() == kind && field.getType() == int.class) {
                constants.add(field.getName());
            } else {
                DUE.is(field + " is private", field.getModifiers() & Modifier.PRIVATE, Modifier.PRIVATE);
            }
        }
        DUE.is("constants: " + constants, constants.equals(Set.of(CONSTANTS)) ? 1 : 0, 1);
        DUE.is("UNKNOWN", BlinkMesh.UNKNOWN, -1);
        DUE.is("BAD_VALUE", BlinkMesh.BAD_VALUE, -2);
        DUE.is("FULL", BlinkMesh.FULL, -3);
        DUE.is("NONE", BlinkMesh.NONE, -5);
    }

    private static void namesOfOwnMethods() {
        Set<String> taken = new TreeSet<>();
        for (String method : METHODS) {
            taken.add(method.replaceFirst("\\(.*", ""));
        }
        for (Class<?> inside : BlinkMesh.class.getDeclaredClasses()) {
            DUE.is(inside + " is static", inside.getModifiers() & Modifier.STATIC, Modifier.STATIC);
            DUE.is(inside + " is public", inside.getModifiers() & Modifier.PUBLIC, 0);
            for (Method method : inside.getDeclaredMethods()) {
                DUE.is(method + " has a name of the face", taken.contains(method.getName()) ? 1 : 0, 0);
            }
        }
    }

    private static void fields() {
        countFields(BlinkMesh.class);
        for (Class<?> inside : BlinkMesh.class.getDeclaredClasses()) {
            countFields(inside);
        }
    }

    private static void countFields(Class<?> kind) {
        int own = 0;
        for (Field field : kind.getDeclaredFields()) {
            if ((field.getModifiers() & Modifier.STATIC) == 0) {
                own++;
            } else {
                DUE.is(field + " is final", field.getModifiers() & Modifier.FINAL, Modifier.FINAL);
            }
        }
        DUE.is(kind + " has more than twenty fields", own > 20 ? own : 0, 0);
    }

    private static void words() throws Exception {
        String source = Files.readString(Path.of("src/main/java/BlinkMesh.java"));
        String code = source.replaceAll("(?s)/\\*.*?\\*/", "").replaceAll("//[^\n]*", "");
        Matcher found = Pattern.compile("\\b(import|package|throw|throws|try|catch|synchronized|assert|instanceof|Object|"
            + "equals|hashCode|toString|float|double|while)\\b|->|::|\"").matcher(code);
        DUE.is(found.find() ? "the word " + found.group() : "words", found.reset().find() ? 1 : 0, 0);
    }

    /** Calls make no objects: what a run takes is what its constructor made. */
    private static void room() {
        com.sun.management.ThreadMXBean threads =
            (com.sun.management.ThreadMXBean) java.lang.management.ManagementFactory.getThreadMXBean();
        long self = Thread.currentThread().getId();
        BlinkMesh x = Due.mesh("0,10,20,30;ab,bc");
        calls(x, 2);
        long before = threads.getThreadAllocatedBytes(self);
        calls(x, 15);
        long made = threads.getThreadAllocatedBytes(self) - before;
        DUE.is("bytes made by 345 calls: " + made, made > 8192 ? 1 : 0, 0);
    }

    private static void calls(BlinkMesh x, int times) {
        for (int time = 0; time < times; time++) {
            x.come(5, 100);
            x.link(0, 3, time % 2 == 0);
            x.tune(1, 3, 100);
            x.set(2, time);
            x.pass(9);
            x.turn(2, time % 2 == 0);
            x.type('1');
            x.readMesh();
            x.clearText();
            x.keep();
            x.restore();
            x.undo();
            x.goAway(4);
            x.lamp(0, 7);
            x.apart(0, 1);
            x.next(1);
            x.togetherIn();
            x.reason();
            x.spread();
            x.ifLinked(0, 2);
            x.hub();
            x.bestLink(0);
            x.count(4);
        }
    }
}
