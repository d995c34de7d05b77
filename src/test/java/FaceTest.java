import java.io.IOException;
import java.lang.reflect.Constructor;
import java.lang.reflect.Executable;
import java.lang.reflect.Field;
import java.lang.reflect.Method;
import java.lang.reflect.Modifier;
import java.nio.file.Files;
import java.nio.file.Path;
import java.util.ArrayList;
import java.util.Arrays;
import java.util.List;
import java.util.Set;
import java.util.TreeSet;
import java.util.regex.Matcher;
import java.util.regex.Pattern;

/** The document's face, and those rules of LANGUAGE.md that can be seen in the class file or in single words. */
public final class FaceTest {
    private static final Path PROGRAM = Path.of("src/main/java/FilterPipe.java");

    private static final String[] FACE = {
        "boolean section(int, int, int, int, int)", "boolean halfPower(int, boolean)", "boolean gain(int)",
        "boolean window(int, int)", "boolean resample(int, int)", "boolean format(int, boolean, boolean)",
        "int response(int, int)", "boolean start()", "boolean restart()", "int bytes(int, int)", "boolean close()",
        "int produce(int)", "int consume(int)", "boolean interrupt(boolean)", "int state()", "int waiting(int)",
        "int sinkByte(int)", "long power(int)"};

    private static final String FORBIDDEN = "\\b(throw|throws|try|catch|finally|synchronized|assert|package|protected"
            + "|volatile|transient|native|hashCode|toString|var|Object|System\\.(?!arraycopy)\\w+|\\w+Exact)\\b|->|::|@";

    private FaceTest() {
    }

    public static void main(String[] args) throws IOException {
        face();
        classes();
        words();
        Check.end();
    }

    private static String written(Method method) {
        List<String> types = new ArrayList<>();
        for (Class<?> type : method.getParameterTypes()) {
            types.add(type.getSimpleName());
        }
        return method.getReturnType().getSimpleName() + " " + method.getName() + "(" + String.join(", ", types) + ")";
    }

    private static void face() {
        Set<String> seen = new TreeSet<>();
        Set<String> publicNames = new TreeSet<>();
        Set<String> privateNames = new TreeSet<>();
        for (Method method : FilterPipe.class.getDeclaredMethods()) {
            if (Modifier.isPrivate(method.getModifiers())) {
                privateNames.add(method.getName());
            } else {
                seen.add(written(method));
                publicNames.add(method.getName());
                Check.due("public: " + written(method), Modifier.isPublic(method.getModifiers()), true);
            }
        }
        Check.due("methods beyond or short of the face: " + seen, seen.equals(new TreeSet<>(Arrays.asList(FACE))), true);
        privateNames.retainAll(publicNames);
        Check.due("private methods with a public one's name: " + privateNames, privateNames.size(), 0);
        Constructor<?>[] made = FilterPipe.class.getDeclaredConstructors();
        Check.due("constructors", made.length, 1);
        Check.due("the constructor is public", Modifier.isPublic(made[0].getModifiers()), true);
        Check.due("the constructor takes one int", Arrays.equals(made[0].getParameterTypes(), new Class<?>[] {int.class}), true);
        int kind = FilterPipe.class.getModifiers();
        Check.due("the class is public and final", Modifier.isPublic(kind) && Modifier.isFinal(kind), true);
        for (Field field : FilterPipe.class.getDeclaredFields()) {
            Check.due("private: " + field.getName(), Modifier.isPrivate(field.getModifiers()), true);
        }
    }

    private static void classes() {
        List<Class<?>> all = new ArrayList<>(Arrays.asList(FilterPipe.class.getDeclaredClasses()));
        for (Class<?> inside : all) {
            Check.due("static: " + inside.getSimpleName(), Modifier.isStatic(inside.getModifiers()), true);
            Check.due("no class inside: " + inside.getSimpleName(), inside.getDeclaredClasses().length, 0);
        }
        all.add(FilterPipe.class);
        Check.due("at most twelve classes: " + all.size(), all.size() <= 12, true);
        for (Class<?> one : all) {
            int fields = 0;
            for (Field field : one.getDeclaredFields()) {
                boolean isStatic = Modifier.isStatic(field.getModifiers());
                Check.due("final if static: " + field, !isStatic || Modifier.isFinal(field.getModifiers()), true);
                fields += isStatic ? 0 : 1;
            }
            Check.due("at most twenty fields: " + one.getSimpleName(), fields <= 20, true);
            List<Executable> calls = new ArrayList<>(Arrays.asList(one.getDeclaredMethods()));
            calls.addAll(Arrays.asList(one.getDeclaredConstructors()));
            for (Executable call : calls) {
                Check.due("at most seven parameters: " + call, call.getParameterCount() <= 7, true);
            }
        }
    }

    private static void words() throws IOException {
        String text = Files.readString(PROGRAM);
        String code = text.replaceAll("(?s)/\\*.*?\\*/", "").replaceAll("//.*", "");
        Matcher word = Pattern.compile(FORBIDDEN).matcher(code);
        Check.due("a word that the rules leave out: " + (word.find() ? word.group() : ""), word.reset().find(), false);
        Matcher imported = Pattern.compile("(?m)^import (.*);").matcher(code);
        while (imported.find()) {
            Check.due("import " + imported.group(1), imported.group(1).matches("java\\.util\\.(ArrayList|List|Arrays)"), true);
        }
        Matcher called = Pattern.compile("\\b(Math|Integer|Long|Arrays|System)\\.(\\w+)").matcher(code);
        Set<String> known = Set.of("Math.max", "Math.min", "Math.abs", "Math.floorDiv", "Math.floorMod", "System.arraycopy");
        while (called.find()) {
            Check.due("of the library: " + called.group(), known.contains(called.group()), true);
        }
    }
}
