import java.io.IOException;
import java.lang.reflect.Executable;
import java.lang.reflect.Field;
import java.lang.reflect.Method;
import java.lang.reflect.Modifier;
import java.nio.file.Files;
import java.nio.file.Path;
import java.util.ArrayDeque;
import java.util.ArrayList;
import java.util.Arrays;
import java.util.Deque;
import java.util.List;
import java.util.Set;
import java.util.TreeSet;
import java.util.regex.Matcher;
import java.util.regex.Pattern;

/** The rules of ../shared/LANGUAGE.md that can be looked up in the source or in the class. */
public final class LanguageTest {
    private static final Path SOURCE = Path.of("src/main/java/CreditLink.java");
    private static final Set<String> EXCEPTIONS = Set.of(
            "IllegalStateException", "IllegalArgumentException", "IndexOutOfBoundsException",
            "ArithmeticException", "UnsupportedOperationException", "NoSuchElementException",
            "RuntimeException");

    public static void main(String[] args) throws IOException {
        String code = withoutComments(Files.readString(SOURCE));
        noPrivateMethodBearsAPublicName();
        nestedClassesAreStaticAndHidden();
        hasNoLambda(code);
        importsOnlyWhatIsListed(code);
        staticFieldsAreConstants();
        throwsOnlyWhatIsListed(code);
        hasNoForbiddenWord(code);
        staysSmall();
        methodsStayShort(code);
        Check.end();
    }

    private static String withoutComments(String source) {
        return source.replaceAll("(?s)/\\*.*?\\*/", "").replaceAll("//[^\n]*", "");
    }

    private static List<Class<?>> classes() {
        List<Class<?>> all = new ArrayList<>();
        all.add(CreditLink.class);
        all.addAll(Arrays.asList(CreditLink.class.getDeclaredClasses()));
        return all;
    }

    private static void same(String what, Object found) {
        Check.same(what, found.toString(), "[]");
    }

    private static void noPrivateMethodBearsAPublicName() {
        Check.sentence("rule 1: no private method bears the name of a public one");
        Set<String> open = new TreeSet<>();
        Set<String> hidden = new TreeSet<>();
        for (Class<?> each : classes()) {
            for (Method method : each.getDeclaredMethods()) {
                if (Modifier.isPublic(method.getModifiers())) {
                    open.add(method.getName());
                } else if (Modifier.isPrivate(method.getModifiers())) {
                    hidden.add(method.getName());
                }
            }
        }
        hidden.retainAll(open);
        same("names of both", hidden);
    }

    private static void nestedClassesAreStaticAndHidden() {
        Check.sentence("rule 1: classes inside are private or package-visible and static");
        for (Class<?> each : CreditLink.class.getDeclaredClasses()) {
            int modifiers = each.getModifiers();
            Check.same(each.getName() + " is static", Modifier.isStatic(modifiers) ? 1 : 0, 1);
            Check.same(each.getName() + " is public", Modifier.isPublic(modifiers) ? 1 : 0, 0);
            Check.same(each.getName() + " is protected", Modifier.isProtected(modifiers) ? 1 : 0, 0);
        }
    }

    private static void hasNoLambda(String code) {
        Check.sentence("rule 2: no lambda, no method reference");
        String withoutCases = code.replaceAll("\\b(case\\b[^;{}>]*|default\\s*)->", "");
        Check.same("arrows", withoutCases.indexOf("->"), -1);
        Check.same("references", code.indexOf("::"), -1);
    }

    private static void importsOnlyWhatIsListed(String code) {
        Check.sentence("rule 4: only what stands here");
        Set<String> found = found(code, "\\b(javax?\\.[\\w.*]+)");
        found.removeAll(Set.of("java.util.ArrayList", "java.util.List", "java.util.Arrays",
                "java.util.Iterator", "java.util.NoSuchElementException"));
        same("other names of the library", found);
    }

    private static Set<String> found(String code, String pattern) {
        Set<String> all = new TreeSet<>();
        Matcher matcher = Pattern.compile(pattern).matcher(code);
        while (matcher.find()) {
            all.add(matcher.group(1));
        }
        return all;
    }

    private static void staticFieldsAreConstants() {
        Check.sentence("rule 5: static fields are final constants");
        Set<String> wrong = new TreeSet<>();
        for (Class<?> each : classes()) {
            for (Field field : each.getDeclaredFields()) {
                int modifiers = field.getModifiers();
                boolean isConstant = Modifier.isFinal(modifiers) && isConstantType(field.getType());
                if (Modifier.isStatic(modifiers) && !field.isSynthetic() && !isConstant) {
                    wrong.add(field.getName());
                }
            }
        }
        same("static fields that are none", wrong);
    }

    private static boolean isConstantType(Class<?> type) {
        Class<?> element = type.isArray() ? type.getComponentType() : type;
        boolean isOne = Set.of(int.class, long.class, char.class).contains(element) || element.isEnum();
        return isOne || type == boolean.class || type == String.class || type == byte[].class;
    }

    private static void throwsOnlyWhatIsListed(String code) {
        Check.sentence("rule 6: throw new E() or throw new E(\"a written text\")");
        Set<String> thrown = found(code, "throw\\s+new\\s+(\\w+)");
        thrown.removeAll(EXCEPTIONS);
        same("other exceptions", thrown);
        Set<String> others = found(code, "throw\\s+((?!new\\b)\\w+)");
        same("other throws", others);
    }

    private static void hasNoForbiddenWord(String code) {
        Check.sentence("rules 4, 6 and 13");
        same("words", found(code, "\\b(finally|synchronized|assert|volatile|native|getMessage|"
                + "hashCode|getClass|currentTimeMillis|nanoTime|Random|Thread|\\w+Exact)\\b"));
    }

    /** The rule says "some" of each, which leaves a few more. */
    private static void staysSmall() {
        Check.sentence("rule 11: at most seven parameters, some twelve classes, some twenty fields");
        Check.same("classes", classes().size() <= 14 ? 1 : 0, 1);
        for (Class<?> each : classes()) {
            long fields = Arrays.stream(each.getDeclaredFields())
                    .filter(field -> !Modifier.isStatic(field.getModifiers())).count();
            Check.same("fields of " + each.getName(), fields <= 24 ? 1 : 0, 1);
            List<Executable> all = new ArrayList<>(Arrays.asList(each.getDeclaredMethods()));
            all.addAll(Arrays.asList(each.getDeclaredConstructors()));
            for (Executable one : all) {
                Check.same("parameters of " + one, one.getParameterCount() <= 7 ? 1 : 0, 1);
            }
        }
    }

    private static void methodsStayShort(String code) {
        Check.sentence("rule 11: methods stay short (some sixty lines)");
        Deque<Integer> begun = new ArrayDeque<>();
        Deque<Boolean> isClass = new ArrayDeque<>();
        String[] lines = code.split("\n");
        for (int i = 0; i < lines.length; i++) {
            for (char c : lines[i].toCharArray()) {
                if (c == '{') {
                    begun.push(i);
                    isClass.push(lines[i].matches(".*\\b(class|enum|interface|record)\\b.*"));
                } else if (c == '}') {
                    int length = i - begun.pop() + 1;
                    boolean isMethod = !isClass.pop() && isClass.peek();
                    Check.same("a method of " + length + " lines", isMethod && length > 66 ? 1 : 0, 0);
                }
            }
        }
    }
}
