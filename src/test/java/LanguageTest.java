import java.io.IOException;
import java.lang.reflect.Executable;
import java.lang.reflect.Field;
import java.lang.reflect.Method;
import java.lang.reflect.Modifier;
import java.nio.file.Files;
import java.nio.file.Path;
import java.util.ArrayDeque;
import java.util.ArrayList;
import java.util.Arrays;
import java.util.Deque;
import java.util.List;
import java.util.Set;
import java.util.TreeSet;
import java.util.regex.Matcher;
import java.util.regex.Pattern;

/** The rules of ../shared/LANGUAGE.md that can be looked up in the source or in the class. */
public final class LanguageTest {
    private static final Path SOURCE = Path.of("src/main/java/CreditLink.java");
    private static final Set<String> EXCEPTIONS = Set.of(
            "IllegalStateException", "IllegalArgumentException", "IndexOutOfBoundsException",
            "ArithmeticException", "UnsupportedOperationException", "NoSuchElementException",
            "RuntimeException");

    public static void main(String[] args) throws IOException {
        String code = withoutComments(Files.readString(SOURCE));
        noNestedMethodBearsAFaceName();
        nestedClassesAreStaticAndHidden();
        hasNoLambda(code);
        importsOnlyWhatIsListed(code);
        staticFieldsAreConstants();
        throwsOnlyWhatIsListed(code);
        hasNoForbiddenWord(code);
        staysSmall();
        methodsStayShort(code);
        Check.end();
    }

    private static String withoutComments(String source) {
        return source.replaceAll("(?s)/\\*.*?\\*/", "").replaceAll("//[^\n]*", "");
    }

    private static List<Class<?>> classes() {
        List<Class<?>> all = new ArrayList<>();
        all.add(CreditLink.class);
        all.addAll(Arrays.asList(CreditLink.class.getDeclaredClasses()));
        return all;
    }

    private static void same(String what, Object found) {
        Check.same(what, found.toString(), "[]");
    }

    private static void noNestedMethodBearsAFaceName() {
        Check.sentence("rule 1: no private method bears the name of a public one");
        Set<String> face = new TreeSet<>();
        Set<String> others = new TreeSet<>();
        for (Class<?> each : classes()) {
            for (Method method : each.getDeclaredMethods()) {
                (Modifier.isPublic(method.getModifiers()) ? face : others).add(method.getName());
            }
        }
        others.retainAll(face);
        same("names of both", others);
    }

    private static void nestedClassesAreStaticAndHidden() {
        Check.sentence("rule 1: classes inside are private or package-visible and static");
        for (Class<?> each : CreditLink.class.getDeclaredClasses()) {
            int modifiers = each.getModifiers();
            Check.same(each.getName() + " is static", Modifier.isStatic(modifiers) ? 1 : 0, 1);
            Check.same(each.getName() + " is public", Modifier.isPublic(modifiers) ? 1 : 0, 0);
            Check.same(each.getName() + " is protected", Modifier.isProtected(modifiers) ? 1 : 0, 0);
        }
    }

    private static void hasNoLambda(String code) {
        Check.sentence("rule 2: no lambda, no method reference");
        Check.same("arrows", code.indexOf("->"), -1);
        Check.same("references", code.indexOf("::"), -1);
    }

    private static void importsOnlyWhatIsListed(String code) {
        Check.sentence("rule 4: only what stands here");
        Set<String> found = found(code, "import\\s+([\\w.*]+)");
        found.removeAll(Set.of("java.util.ArrayList", "java.util.List", "java.util.Arrays"));
        same("other imports", found);
        Set<String> names = found(code, "\\b(java|javax)\\.(?!util\\.(?:ArrayList|List|Arrays);)");
        same("other packages", names);
    }

    private static Set<String> found(String code, String pattern) {
        Set<String> all = new TreeSet<>();
        Matcher matcher = Pattern.compile(pattern).matcher(code);
        while (matcher.find()) {
            all.add(matcher.group(1));
        }
        return all;
    }

    private static void staticFieldsAreConstants() {
        Check.sentence("rule 5: static fields are final constants");
        Set<String> wrong = new TreeSet<>();
        for (Class<?> each : classes()) {
            for (Field field : each.getDeclaredFields()) {
                int modifiers = field.getModifiers();
                boolean isConstant = Modifier.isFinal(modifiers)
                        && (field.getType().isPrimitive() || field.getType() == String.class);
                if (Modifier.isStatic(modifiers) && !isConstant) {
                    wrong.add(field.getName());
                }
            }
        }
        same("static fields that are none", wrong);
    }

    private static void throwsOnlyWhatIsListed(String code) {
        Check.sentence("rule 6: throw new E() or throw new E(\"a written text\")");
        Set<String> thrown = found(code, "throw\\s+new\\s+(\\w+)");
        thrown.removeAll(EXCEPTIONS);
        same("other exceptions", thrown);
        Set<String> others = found(code, "throw\\s+((?!new\\b)\\w+)");
        same("other throws", others);
    }

    private static void hasNoForbiddenWord(String code) {
        Check.sentence("rules 3, 6 and 13");
        same("words", found(code, "\\b(finally|synchronized|assert|volatile|native|getMessage|"
                + "hashCode|getClass|currentTimeMillis|nanoTime|Random|Thread|double|float|try|catch|"
                + "\\w+Exact)\\b"));
    }

    private static void staysSmall() {
        Check.sentence("rule 11: at most seven parameters, some twelve classes, some twenty fields");
        Check.same("classes", classes().size() <= 12 ? 1 : 0, 1);
        for (Class<?> each : classes()) {
            long fields = Arrays.stream(each.getDeclaredFields())
                    .filter(field -> !Modifier.isStatic(field.getModifiers())).count();
            Check.same("fields of " + each.getName(), fields <= 20 ? 1 : 0, 1);
            List<Executable> all = new ArrayList<>(Arrays.asList(each.getDeclaredMethods()));
            all.addAll(Arrays.asList(each.getDeclaredConstructors()));
            for (Executable one : all) {
                Check.same("parameters of " + one, one.getParameterCount() <= 7 ? 1 : 0, 1);
            }
        }
    }

    private static void methodsStayShort(String code) {
        Check.sentence("rule 11: methods stay short (some sixty lines)");
        Deque<Integer> begun = new ArrayDeque<>();
        Deque<Boolean> isClass = new ArrayDeque<>();
        String[] lines = code.split("\n");
        for (int i = 0; i < lines.length; i++) {
            for (char c : lines[i].toCharArray()) {
                if (c == '{') {
                    begun.push(i);
                    isClass.push(lines[i].contains(" class "));
                } else if (c == '}') {
                    int length = i - begun.pop() + 1;
                    boolean isMethod = !isClass.pop() && isClass.peek();
                    Check.same("a method of " + length + " lines", isMethod && length > 60 ? 1 : 0, 0);
                }
            }
        }
    }
}
