import java.io.IOException;
import java.lang.reflect.Field;
import java.lang.reflect.Method;
import java.lang.reflect.Modifier;
import java.net.URL;
import java.net.URLClassLoader;
import java.nio.file.Files;
import java.nio.file.Path;
import java.util.ArrayList;
import java.util.List;
import java.util.regex.Matcher;
import java.util.regex.Pattern;
import javax.tools.ToolProvider;

/** README.md: its calls, run in their order on one object, answer what stands behind them. */
public final class ReadmeTest {
    private static final Path PAGE = Path.of("README.md");
    private static final Path PLACE = Path.of("build/readme");
    private static final Pattern BLOCK = Pattern.compile("(?s)```java\n(.*?)```");
    private static final Pattern CALL = Pattern.compile("(x\\.[^;]*);\\s*// (-?\\d+|[A-Z]+)\\b.*");

    private final List<String> calls = new ArrayList<>();
    private final List<Long> wants = new ArrayList<>();

    private ReadmeTest() {
    }

    public static void main(String[] args) throws Exception {
        String page = Files.readString(PAGE);
        new ReadmeTest().answersAreAsToldOn(page);
        eachMemberIsToldOn(page);
        Due.finish("ReadmeTest");
    }

    private void answersAreAsToldOn(String page) throws Exception {
        String source = programOf(page);
        Due.is("calls are told", calls.size() > 40 ? 1 : 0, 1);
        List<?> got = (List<?>) compiled(source).getMethod("answers").invoke(null);
        Due.is("all were run", got.size(), calls.size());
        for (int k = 0; k < calls.size(); k++) {
            Due.is("README.md: " + calls.get(k), (Long) got.get(k), wants.get(k));
        }
    }

    /** The blocks of the page as one method, each call that has an answer behind it written into a list. */
    private String programOf(String page) throws ReflectiveOperationException {
        StringBuilder program = new StringBuilder("public final class ReadmeExample {\n"
            + "public static java.util.List<Long> answers() {\n"
            + "java.util.List<Long> all = new java.util.ArrayList<>();\n");
        Matcher blocks = BLOCK.matcher(page);
        while (blocks.find()) {
            for (String line : blocks.group(1).split("\n")) {
                Matcher call = CALL.matcher(line);
                if (!call.matches()) {
                    program.append(line).append('\n');
                    continue;
                }
                calls.add(call.group(1));
                wants.add(number(call.group(2)));
                program.append("all.add((long) ").append(call.group(1)).append(");\n");
            }
        }
        return program.append("return all;\n}\n}\n").toString();
    }

    private static long number(String told) throws ReflectiveOperationException {
        boolean isName = Character.isUpperCase(told.charAt(0));
        return isName ? SleepRoads.class.getField(told).getLong(null) : Long.parseLong(told);
    }

    private static Class<?> compiled(String source) throws IOException, ReflectiveOperationException {
        Files.createDirectories(PLACE);
        Path file = PLACE.resolve("ReadmeExample.java");
        Files.writeString(file, source);
        String classes = System.getProperty("java.class.path");
        int ended = ToolProvider.getSystemJavaCompiler().run(null, null, null,
            "-cp", classes, "-d", PLACE.toString(), file.toString());
        Due.is("README.md compiles", ended, 0);
        URL[] where = {PLACE.toUri().toURL()};
        return new URLClassLoader(where, ReadmeTest.class.getClassLoader()).loadClass("ReadmeExample");
    }

    private static void eachMemberIsToldOn(String page) {
        for (Method method : SleepRoads.class.getDeclaredMethods()) {
            if (Modifier.isPublic(method.getModifiers())) {
                Due.is(method.getName() + " is told", isTold(page, "\\bx\\." + method.getName() + "\\(") ? 1 : 0, 1);
            }
        }
        for (Field field : SleepRoads.class.getFields()) {
            Due.is(field.getName() + " is told", isTold(page, "`" + field.getName() + "`") ? 1 : 0, 1);
        }
    }

    private static boolean isTold(String page, String pattern) {
        return Pattern.compile(pattern).matcher(page).find();
    }
}
