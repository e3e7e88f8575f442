import java.lang.reflect.Constructor;
import java.lang.reflect.Field;
import java.lang.reflect.Method;
import java.lang.reflect.Modifier;
import java.nio.file.Files;
import java.nio.file.Path;
import java.util.ArrayList;
import java.util.List;
import java.util.Set;
import java.util.TreeSet;
import java.util.regex.Matcher;
import java.util.regex.Pattern;

/** The public face as the document has it, and those rules of LANGUAGE.md that can be seen from outside. */
public final class FaceTest {
    private static final String SOURCE = "src/main/java/LetsIn.java";
    private static final String[] FACE = {
        "feed(long)", "end(int)", "town()", "fault()", "rule(int)", "one(int,int)", "owes(int,int)", "must(int,int)",
        "law(int)", "counters(int)", "comes(int,int)", "debt(int,int,int)", "pay(int,int)", "lend(int,int,int)",
        "sell(int,int,int)", "served(int)", "waits(int)", "place(int,int)", "row(int,int)", "all(int)",
        "poor(int,int)", "stands(int)", "order(int)", "rings()", "shop(int)", "clear(int,int,int)", "door(int,int)",
        "buy(int,int)", "see(int)", "forget()", "told(int,int)", "judge()", "day(int,int)", "keep(int)", "back(int)",
        "sheet(int,int,int)", "lay(int,int,int)", "read(int,int,int,int)", "torn()", "count(int)"};
    private static final String[] NOT_IN_THE_PROGRAM = {
        "\\bthrow\\b", "\\bthrows\\b", "\\btry\\b", "\\bcatch\\b", "\\bsynchronized\\b", "\\bassert\\b", "->", "::",
        "Exact\\b", "\\bimport\\b", "\\bpackage\\b", "\\bvar\\b", "\\bstatic\\s*\\{", "\\bequals\\b", "\\bhashCode\\b"};

    public static void main(String[] args) throws Exception {
        Check check = new Check("FaceTest");
        face(check);
        hidden(check);
        language(check);
        check.finish();
    }

    private static void face(Check check) {
        Set<String> want = new TreeSet<>(List.of(FACE));
        Set<String> got = new TreeSet<>();
        for (Method method : LetsIn.class.getDeclaredMethods()) {
            if (!Modifier.isPrivate(method.getModifiers())) {
                got.add(signature(method));
                check.holds(method + " answers an int", method.getReturnType() == int.class);
                check.due(method + " modifiers", Modifier.PUBLIC, method.getModifiers());
            }
        }
        check.holds("the methods are " + want + ", not " + got, want.equals(got));
        Constructor<?>[] made = LetsIn.class.getDeclaredConstructors();
        check.due("constructors", 1, made.length);
        check.due("its parameters", 0, made[0].getParameterCount());
        check.holds("it is public", Modifier.isPublic(made[0].getModifiers()));
        check.due("the class", Modifier.PUBLIC | Modifier.FINAL, LetsIn.class.getModifiers());
        check.due("BAD", -1, LetsIn.BAD);
        check.due("STATE", -2, LetsIn.STATE);
        check.due("FULL", -3, LetsIn.FULL);
        check.due("NONE", -4, LetsIn.NONE);
    }

    private static String signature(Method method) {
        List<String> types = new ArrayList<>();
        for (Class<?> type : method.getParameterTypes()) {
            types.add(type.getName());
        }
        return method.getName() + "(" + String.join(",", types) + ")";
    }

    private static void hidden(Check check) {
        Set<String> shown = new TreeSet<>();
        for (String method : FACE) {
            shown.add(method.substring(0, method.indexOf('(')));
        }
        for (Field field : LetsIn.class.getDeclaredFields()) {
            boolean constant = List.of("BAD", "STATE", "FULL", "NONE").contains(field.getName());
            check.holds(field + " is hidden", constant != Modifier.isPrivate(field.getModifiers()));
        }
        for (Method method : LetsIn.class.getDeclaredMethods()) {
            if (Modifier.isPrivate(method.getModifiers())) {
                check.holds(method + " has a name of its own", !shown.contains(method.getName()));
            }
        }
        for (Class<?> inside : LetsIn.class.getDeclaredClasses()) {
            check.holds(inside + " is static", Modifier.isStatic(inside.getModifiers()));
            check.holds(inside + " is not public", !Modifier.isPublic(inside.getModifiers()));
            check.holds(inside + " has not too many fields", inside.getDeclaredFields().length <= 24);
            for (Method method : inside.getDeclaredMethods()) {
                check.holds(method + " has a name of its own", !shown.contains(method.getName()));
                check.holds(method + " takes seven at most", method.getParameterCount() <= 7);
            }
        }
    }

    private static void language(Check check) throws Exception {
        String bare = Files.readString(Path.of(SOURCE)).replaceAll("(?s)/\\*.*?\\*/", "").replaceAll("//[^\n]*", "");
        for (String form : NOT_IN_THE_PROGRAM) {
            Matcher found = Pattern.compile(form).matcher(bare);
            check.holds("the program has no " + form, !found.find());
        }
        // Every row is made with the object: outside of fields and the constructor nothing is made.
        for (String line : bare.split("\n")) {
            boolean makes = Pattern.compile("\\bnew\\b").matcher(line).find();
            boolean made = line.contains("final ") || line.contains("[k] = new");
            check.holds("nothing is made by a call: " + line.trim(), !makes || made);
        }
    }
}
