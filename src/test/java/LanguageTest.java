import java.io.IOException;
import java.lang.reflect.Field;
import java.lang.reflect.Member;
import java.lang.reflect.Method;
import java.lang.reflect.Modifier;
import java.nio.file.Files;
import java.nio.file.Path;
import java.util.ArrayList;
import java.util.Arrays;
import java.util.List;
import java.util.Set;
import java.util.TreeSet;
import java.util.regex.Matcher;
import java.util.regex.Pattern;

/** What of ../shared/LANGUAGE.md can be seen from outside: the face, the words, the lengths, where objects are made. */
public final class LanguageTest {
    private static final Path SOURCE = Path.of("src/main/java/SpoonWords.java");
    private static final Path DOCUMENT = Path.of("../shared/DOC.md");
    private static final String BANNED = "throw|try|catch|synchronized|assert|import|package|static\\s*\\{|->|::|protected|"
        + "hashCode|toString|System\\.(?!arraycopy)|\\w+Exact|Random|Thread|NaN|int\\[\\]\\[\\]\\[\\]";
    private static int wrong = 0;

    private static void ask(boolean right, String told) {
        if (!right) {
            wrong++;
            System.out.println(told);
        }
    }

    public static void main(String[] args) throws IOException {
        String code = withoutComments(Files.readString(SOURCE));
        Matcher banned = Pattern.compile("(?<!\\w)(" + BANNED + ")").matcher(code);
        while (banned.find()) {
            ask(false, "banned: " + banned.group());
        }
        ask(code.chars().allMatch(c -> c < 128), "signs above 127");
        face();
        classes();
        methods(code);
        System.out.println("the language's rules, " + wrong + " not kept");
        if (wrong != 0) {
            System.exit(1);
        }
    }

    private static String withoutComments(String source) {
        return source.replaceAll("(?s)/\\*.*?\\*/", "").replaceAll("//[^\n]*", "");
    }

    private static void face() throws IOException {
        Set<String> told = new TreeSet<>();
        Matcher line = Pattern.compile("    public (int|long) (\\w+)\\(([^)]*)\\);").matcher(Files.readString(DOCUMENT));
        while (line.find()) {
            String types = line.group(3).replaceAll("(int|long) \\w+", "$1");
            told.add(line.group(1) + " " + line.group(2) + "(" + types + ")");
        }
        Set<String> there = new TreeSet<>();
        Set<String> publicNames = new TreeSet<>();
        for (Method m : SpoonWords.class.getDeclaredMethods()) {
            if (Modifier.isPublic(m.getModifiers())) {
                String types = Arrays.toString(m.getParameterTypes());
                there.add(m.getReturnType() + " " + m.getName() + "(" + types.substring(1, types.length() - 1) + ")");
                publicNames.add(m.getName());
            } else {
                ask(Modifier.isPrivate(m.getModifiers()), m + " is neither public nor private");
            }
        }
        ask(told.size() == 40 && told.equals(there), "the face is " + there + ", told is " + told);
        ask(Modifier.isFinal(SpoonWords.class.getModifiers()), "the class isn't final");
        ask(SpoonWords.class.getDeclaredConstructors().length == 1, "one constructor");
        for (Class<?> c : SpoonWords.class.getDeclaredClasses()) {
            for (Method m : c.getDeclaredMethods()) {
                ask(!publicNames.contains(m.getName()), m + " bears the name of a public one");
            }
        }
        for (Field f : SpoonWords.class.getDeclaredFields()) {
            ask(Modifier.isPrivate(f.getModifiers()), f + " isn't private");
        }
    }

    private static void classes() {
        List<Class<?>> all = new ArrayList<>(List.of(SpoonWords.class.getDeclaredClasses()));
        ask(all.size() < 12, "too many classes");
        all.add(SpoonWords.class);
        for (Class<?> c : all) {
            ask(c == SpoonWords.class || Modifier.isStatic(c.getModifiers()), c + " isn't static");
            long fields = Arrays.stream(c.getDeclaredFields()).filter(f -> !isStatic(f)).count();
            ask(fields <= 20, c + " has " + fields + " fields");
            for (Field f : c.getDeclaredFields()) {
                ask(!isStatic(f) || Modifier.isFinal(f.getModifiers()), f + " is static and not final");
            }
            for (Method m : c.getDeclaredMethods()) {
                ask(m.getParameterCount() <= 7, m + " takes too much");
            }
        }
    }

    private static boolean isStatic(Member m) {
        return Modifier.isStatic(m.getModifiers());
    }

    /** Methods are short, and none but the constructor makes objects. */
    private static void methods(String code) {
        Pattern head = Pattern.compile("(public|private|static|int|long|boolean|void|String|Sheet) .*?(\\w+)\\(.*\\{$");
        String name = "";
        int since = 0;
        int depth = 0;
        int methodDepth = -1;
        String[] lines = code.split("\n");
        for (int i = 0; i < lines.length; i++) {
            String line = lines[i].trim();
            Matcher m = head.matcher(line);
            if (methodDepth < 0 && (m.matches() || line.equals("public SpoonWords() {"))) {
                name = line;
                since = i;
                methodDepth = depth;
            }
            boolean makes = line.matches(".*\\bnew\\b.*") && methodDepth >= 0;
            ask(!makes || name.equals("public SpoonWords() {"), name + " makes an object: " + line);
            depth += line.replaceAll("[^{]", "").length() - line.replaceAll("[^}]", "").length();
            if (methodDepth == depth) {
                ask(i - since < 60, name + " is long");
                methodDepth = -1;
            }
        }
        ask(depth == 0, "braces");
    }
}
