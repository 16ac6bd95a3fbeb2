import java.io.IOException;
import java.nio.file.Files;
import java.nio.file.Path;
import java.util.Arrays;

/** The example of README.md: it is the one below, and what it tells is so. */
public final class ReadmeTest {
    private static final Path README = Path.of("README.md");
    private static final Path OWN_SOURCE = Path.of("src/test/java/ReadmeTest.java");

    public static void main(String[] args) throws IOException {
        theExampleIsTheOneBelow();
        theExampleHolds();
        namesEveryCall();
        Check.end();
    }

    private static void theExampleIsTheOneBelow() throws IOException {
        String[] parts = Files.readString(README).split("```");
        Check.same("code in README.md", parts.length, 3);
        Check.same("the example", statements(parts[1]), statements(below()));
    }

    private static String below() throws IOException {
        String source = Files.readString(OWN_SOURCE);
        String begin = "private static void theExampleHolds() {";
        int from = source.lastIndexOf(begin) + begin.length();
        return source.substring(from, source.indexOf("\n    }", from));
    }

    /** The statements that are no checks, without what is told beside them. */
    private static String statements(String code) {
        StringBuilder all = new StringBuilder();
        for (String line : code.split("\n")) {
            String statement = line.replaceAll("//.*", "").trim();
            boolean isCheck = statement.startsWith("Check.") || statement.startsWith("Link.");
            if (statement.endsWith(";") && !isCheck) {
                all.append(statement).append('\n');
            }
        }
        return all.toString();
    }

    private static void namesEveryCall() throws IOException {
        String text = Files.readString(README);
        Arrays.stream(CreditLink.class.getMethods())
                .filter(method -> method.getDeclaringClass() == CreditLink.class)
                .forEach(method -> Check.same("README.md tells " + method.getName(),
                        text.contains("| `" + method.getName() + "(") ? 1 : 0, 1));
    }

    private static void theExampleHolds() {
        CreditLink x = new CreditLink();
        x.service(1, 3, 40, 25, 2);
        int near = x.connect(0, 3, 50, 23, 1);
        Check.same("near", near, 64);
        x.take(1);
        x.take(0);
        Link.channelIs(x, 0, 64, CreditLink.OPEN);
        int far = x.channel(0, near, 1);
        Check.same("far", far, 64);
        x.feed(3, 0x01020300, 0, 0, 0);
        x.send(0, near);
        int size = x.take(1);
        Check.same("size", size, 9);
        int bytes = x.receive(1, far);
        Check.same("bytes", bytes, 3);
        int first = x.octet(0);
        Check.same("first", first, 1);
        x.grant(1, far, 1);
        x.take(0);
        Link.channelIs(x, 0, 64, CreditLink.OPEN, 64, 2);
        x.leave(0, near);
        Link.channelIs(x, 0, 64, CreditLink.LEAVING);
        x.take(1);
        Link.channelIs(x, 1, 64, CreditLink.CLOSED);
        x.take(0);
        Link.channelIs(x, 0, 64, CreditLink.CLOSED);
    }
}
