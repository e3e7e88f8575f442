import java.lang.reflect.Method;
import java.nio.file.Files;
import java.nio.file.Path;
import java.util.regex.Matcher;
import java.util.regex.Pattern;

/** README.md's example answers as it says, and its table names each call once. */
public final class ReadmeTest {
    private static final Pattern TEXT = Pattern.compile("String text = \"(.*)\";");
    private static final Pattern CALL = Pattern.compile("(?m)^x\\.(\\w+)\\(([^)]*)\\);? +// (-?\\d+)");

    private final Check check = new Check("ReadmeTest");
    private final String page;

    private ReadmeTest() throws Exception {
        page = Files.readString(Path.of("README.md"));
    }

    public static void main(String[] args) throws Exception {
        ReadmeTest test = new ReadmeTest();
        test.example();
        test.table();
        test.check.finish();
    }

    private void example() throws Exception {
        Matcher told = TEXT.matcher(page);
        check.holds("there is a text", told.find());
        String text = told.group(1);
        LetsIn x = new LetsIn();
        for (long eight : Check.eights(text)) {
            x.feed(eight);
        }
        int asked = 0;
        Matcher call = CALL.matcher(page.replace("text.length()", "" + text.length()));
        while (call.find()) {
            asked++;
            check.due(call.group(), Integer.parseInt(call.group(3)), answer(x, call.group(1), call.group(2)));
        }
        check.due("calls in the example", 22, asked);
    }

    private static int answer(LetsIn x, String name, String arguments) throws Exception {
        String[] words = arguments.isEmpty() ? new String[0] : arguments.split(", ");
        Object[] with = new Object[words.length];
        Class<?>[] types = new Class<?>[words.length];
        for (int i = 0; i < words.length; i++) {
            with[i] = Integer.valueOf(words[i]);
            types[i] = int.class;
        }
        return (Integer) LetsIn.class.getMethod(name, types).invoke(x, with);
    }

    private void table() {
        StringBuilder rows = new StringBuilder();
        for (String line : page.split("\n")) {
            rows.append(line.startsWith("| `") ? line : "");
        }
        for (Method call : LetsIn.class.getDeclaredMethods()) {
            if (java.lang.reflect.Modifier.isPublic(call.getModifiers())) {
                check.due(call.getName() + " in the table", 2, (" " + rows + " ").split("`" + call.getName() + "`").length);
            }
        }
    }
}
