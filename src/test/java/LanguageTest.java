import java.io.IOException;
import java.lang.reflect.Executable;
import java.lang.reflect.Field;
import java.lang.reflect.Member;
import java.lang.reflect.Method;
import java.lang.reflect.Modifier;
import java.nio.file.Files;
import java.nio.file.Path;
import java.util.ArrayList;
import java.util.Arrays;
import java.util.HashSet;
import java.util.List;
import java.util.Set;
import java.util.TreeSet;
import java.util.regex.Matcher;
import java.util.regex.Pattern;

/** What of LANGUAGE.md, and of the document's face, can be told from the class and its text. */
public final class LanguageTest {
    private static final Path SOURCE = Path.of("src/main/java/SleepRoads.java");
    private static final String[] FACE = {
        "SleepRoads()", "int town(int,int,int,int)", "int ofSleeper(int,int)", "int goods(int)", "int lay(int,int)",
        "int stride(int,int)", "int where(int,int)", "int taken(int,int)", "int free(int)", "int meet(int,int)",
        "int walk(int,int,int,int,int,int)", "int soonest(int,int,int)", "int steer(int,int,int)", "int guard()",
        "int reading(int,int,int)", "int back(int)", "int strides(int)", "int kinds(int)", "int starts(int)",
        "long odds(int,int,int,int)", "int sheet(int,int,int)", "int lose(int)", "int put(int,int,int)",
        "long cell(int,int,int)", "int copy(int,int,int,int,int)", "int tell(int)", "int waken(int)", "int as(int,int)",
        "int trace()", "int fault()", "int many(int)", "int UNKNOWN", "int OUTSIDE", "int STATE", "int FULL",
        "int NONE", "long LOST",
    };
    /** Rule 4, as far as a name and a dot can tell it. */
    private static final Pattern LIBRARY = Pattern.compile("java\\.util\\.(Arrays|ArrayList|List|Iterator)"
        + "|String|StringBuilder|Integer|ArrayList|List|List\\.of|Iterator|Iterable|Comparable|System\\.arraycopy"
        + "|Arrays\\.(copyOf|copyOfRange|fill)|(Integer|Long|Math)\\.\\w+(?<!Exact)");

    private LanguageTest() {
    }

    public static void main(String[] args) throws IOException {
        String text = Files.readString(SOURCE);
        String code = text.replaceAll("(?s)/\\*.*?\\*/", "").replaceAll("//[^\n]*", "");
        face();
        classes();
        noneOf(code, "\\b(throw|throws|try|catch|finally|synchronized|assert|volatile|native|package)\\b");
        noneOf(code, "\\b(hashCode|Object|Random|Thread|var)\\b");
        noneOf(code, "->|::|\\bstatic\\s*\\{");
        library(code);
        methodsAreShort(code);
        Due.finish("LanguageTest");
    }

    private static void face() {
        Set<String> got = new TreeSet<>();
        List<Member> members = new ArrayList<>();
        members.addAll(Arrays.asList(SleepRoads.class.getDeclaredConstructors()));
        members.addAll(Arrays.asList(SleepRoads.class.getDeclaredMethods()));
        members.addAll(Arrays.asList(SleepRoads.class.getDeclaredFields()));
        for (Member member : members) {
            if (Modifier.isPrivate(member.getModifiers())) {
                continue;
            }
            got.add(told(member));
            Due.is("public: " + member, Modifier.isPublic(member.getModifiers()) ? 1 : 0, 1);
        }
        Set<String> want = new TreeSet<>(Arrays.asList(FACE));
        System.out.print(got.equals(want) ? "" : "the face is " + got + "\n");
        Due.is("the face", got.equals(want) ? 1 : 0, 1);
        Due.is("final", Modifier.isFinal(SleepRoads.class.getModifiers()) ? 1 : 0, 1);
    }

    private static String told(Member member) {
        if (member instanceof Field) {
            return ((Field) member).getType() + " " + member.getName();
        }
        StringBuilder types = new StringBuilder();
        for (Class<?> type : ((Executable) member).getParameterTypes()) {
            types.append(types.length() == 0 ? "" : ",").append(type);
        }
        String result = member instanceof Method ? ((Method) member).getReturnType() + " " : "";
        return result + member.getName() + "(" + types + ")";
    }

    private static void classes() {
        Set<String> face = new HashSet<>();
        for (Method method : SleepRoads.class.getDeclaredMethods()) {
            if (Modifier.isPublic(method.getModifiers())) {
                face.add(method.getName());
            }
        }
        List<Class<?>> all = new ArrayList<>(Arrays.asList(SleepRoads.class.getDeclaredClasses()));
        Due.is("at most some twelve classes", all.size() <= 11 ? 1 : 0, 1);
        for (Class<?> inside : all) {
            Due.is("static: " + inside, Modifier.isStatic(inside.getModifiers()) ? 1 : 0, 1);
        }
        all.add(SleepRoads.class);
        for (Class<?> each : all) {
            int fields = 0;
            for (Field field : each.getDeclaredFields()) {
                fields += Modifier.isStatic(field.getModifiers()) ? 0 : 1;
                boolean staticVariable = Modifier.isStatic(field.getModifiers()) && !Modifier.isFinal(field.getModifiers());
                Due.is("static and not final: " + field, staticVariable ? 1 : 0, 0);
            }
            Due.is("at most some twenty fields: " + each, fields <= 20 ? 1 : 0, 1);
            for (Method method : each.getDeclaredMethods()) {
                boolean ofTheFace = each == SleepRoads.class && Modifier.isPublic(method.getModifiers());
                Due.is("a public one's name: " + method, !ofTheFace && face.contains(method.getName()) ? 1 : 0, 0);
                Due.is("at most seven parameters: " + method, method.getParameterCount() <= 7 ? 1 : 0, 1);
            }
        }
    }

    private static void noneOf(String code, String pattern) {
        Matcher matcher = Pattern.compile(pattern).matcher(code);
        int found = 0;
        while (matcher.find()) {
            System.out.println("the language has no " + matcher.group());
            found++;
        }
        Due.is("words that the language has not", found, 0);
    }

    /** Whatever is told with a capital and a dot must be of the library that is listed, or a class of its own. */
    private static void library(String code) {
        Matcher matcher = Pattern.compile("\\b(?:java\\.[a-z.]*)?([A-Z][a-z]\\w*)(?:\\.\\w+)?").matcher(code);
        Set<String> own = new HashSet<>(Arrays.asList("SleepRoads"));
        for (Class<?> inside : SleepRoads.class.getDeclaredClasses()) {
            own.add(inside.getSimpleName());
        }
        while (matcher.find()) {
            boolean listed = own.contains(matcher.group(1)) || LIBRARY.matcher(matcher.group()).matches();
            Due.is("of the library: " + matcher.group(), listed ? 1 : 0, 1);
        }
        for (char sign : code.toCharArray()) {
            if (sign > 126 || sign < 32 && sign != '\n') {
                Due.is("a sign's number", sign, ' ');
            }
        }
    }

    private static void methodsAreShort(String code) {
        String[] lines = code.split("\n");
        int longest = 0;
        for (int k = 0; k < lines.length; k++) {
            Matcher head = Pattern.compile("( {4}| {8})[a-z]\\w* .*\\) \\{").matcher(lines[k]);
            if (!head.matches()) {
                continue;
            }
            int end = k;
            while (!lines[end].equals(head.group(1) + "}")) {
                end++;
            }
            longest = Math.max(longest, end - k + 1);
        }
        Due.is("methods were found", longest > 10 ? 1 : 0, 1);
        Due.is("no method is longer than sixty lines", longest <= 60 ? 1 : 0, 1);
    }
}
