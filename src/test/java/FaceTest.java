import com.sun.source.tree.ClassTree;
import com.sun.source.tree.MethodTree;
import java.lang.reflect.Constructor;
import java.lang.reflect.Field;
import java.lang.reflect.Method;
import java.lang.reflect.Modifier;
import java.util.ArrayList;
import java.util.List;
import java.util.Set;
import java.util.TreeSet;

/** The public face, just as the document prints it, and that nothing else is to be seen. */
public final class FaceTest {
    private static final List<String> CONSTANTS = List.of("BAD", "STATE", "FULL", "NONE");
    private static final List<String> FACE = List.of(
            "int feed(long v)", "int end(int n)", "int town()", "int fault()", "int rule(int what)",
            "int one(int p, int what)", "int owes(int a, int b)", "int must(int a, int b)", "int law(int v)",
            "int counters(int v)", "int comes(int p, int t)", "int debt(int a, int b, int v)", "int pay(int a, int b)",
            "int lend(int a, int b, int v)", "int sell(int a, int b, int c)", "int served(int p)", "int waits(int p)",
            "int place(int p, int t)", "int row(int t, int i)", "int all(int what)", "int poor(int v, int law)",
            "int stands(int i)", "int order(int what)", "int rings()", "int shop(int what)",
            "int clear(int p, int t, int what)", "int door(int p, int what)", "int buy(int p, int what)",
            "int see(int p)", "int forget()", "int told(int a, int b)", "int judge()", "int day(int seed, int what)",
            "int keep(int k)", "int back(int k)", "int sheet(int k, int lane, int n)", "int lay(int k, int i, int v)",
            "int read(int k, int lane, int f, int n)", "int torn()", "int count(int what)");

    private final Check check = new Check("FaceTest");
    private final Set<String> shown = new TreeSet<>();

    private FaceTest() {
        for (String call : FACE) {
            shown.add(call.substring(4, call.indexOf('(')));
        }
    }

    public static void main(String[] args) throws Exception {
        FaceTest test = new FaceTest();
        test.theClass();
        test.constants();
        test.constructor();
        test.asPrinted();
        test.calls();
        test.inside();
        test.check.finish();
    }

    private void theClass() {
        check.says("public final class LetsIn");
        check.due("the class", Modifier.PUBLIC | Modifier.FINAL, LetsIn.class.getModifiers());
        check.holds("it has no package", LetsIn.class.getPackageName().isEmpty());
        check.holds("it is made of no other class", LetsIn.class.getSuperclass() == Object.class);
        check.due("interfaces", 0, LetsIn.class.getInterfaces().length);
        check.due("parameters of its own", 0, LetsIn.class.getTypeParameters().length);
    }

    private void constants() throws Exception {
        check.says("public static final int BAD = -1, STATE = -2, FULL = -3, NONE = -4");
        for (int i = 0; i < CONSTANTS.size(); i++) {
            Field constant = LetsIn.class.getDeclaredField(CONSTANTS.get(i));
            check.due(constant + "", Modifier.PUBLIC | Modifier.STATIC | Modifier.FINAL, constant.getModifiers());
            check.holds(constant + " is an int", constant.getType() == int.class);
            check.due(CONSTANTS.get(i), -1 - i, constant.getInt(null));
        }
        for (Field field : LetsIn.class.getDeclaredFields()) {
            boolean hidden = Modifier.isPrivate(field.getModifiers());
            check.holds(field + " is hidden", CONSTANTS.contains(field.getName()) != hidden);
        }
    }

    private void constructor() {
        check.says("public LetsIn()");
        Constructor<?>[] made = LetsIn.class.getDeclaredConstructors();
        check.due("constructors", 1, made.length);
        check.due("its parameters", 0, made[0].getParameterCount());
        check.due("its modifiers", Modifier.PUBLIC, made[0].getModifiers());
        check.due("what it may throw", 0, made[0].getExceptionTypes().length);
    }

    /** The text of the program has each call with the names of its arguments, in the document's order. */
    private void asPrinted() throws Exception {
        check.says("its forty calls, just as they are printed");
        check.due("calls", 40, FACE.size());
        List<String> printed = new ArrayList<>();
        ClassTree program = new Source().top().get(0);
        for (MethodTree method : Source.members(program, MethodTree.class)) {
            boolean call = method.getReturnType() != null;
            if (call && method.getModifiers().getFlags().contains(javax.lang.model.element.Modifier.PUBLIC)) {
                printed.add(Source.printed(method));
            }
        }
        check.due("calls", FACE.size(), printed.size());
        for (int i = 0; i < Math.min(FACE.size(), printed.size()); i++) {
            check.holds(printed.get(i) + ", due is " + FACE.get(i), printed.get(i).equals(FACE.get(i)));
        }
    }

    private void calls() {
        for (Method method : LetsIn.class.getDeclaredMethods()) {
            if (Modifier.isPrivate(method.getModifiers())) {
                check.says("no private method bears the name of a public one");
                check.holds(method + " has a name of its own", !shown.contains(method.getName()));
            } else {
                check.says("a public method of an object, that answers an int and throws nothing");
                check.holds(method + " is of the face", shown.contains(method.getName()));
                check.due(method + " modifiers", Modifier.PUBLIC, method.getModifiers());
                check.holds(method + " answers an int", method.getReturnType() == int.class);
                check.due(method + " exceptions", 0, method.getExceptionTypes().length);
            }
        }
    }

    private void inside() {
        check.says("the classes inside it are private or package-visible and static");
        for (Class<?> inside : LetsIn.class.getDeclaredClasses()) {
            check.holds(inside + " is static", Modifier.isStatic(inside.getModifiers()));
            check.holds(inside + " is not public", !Modifier.isPublic(inside.getModifiers()));
            check.holds(inside + " is not protected", !Modifier.isProtected(inside.getModifiers()));
            for (Method method : inside.getDeclaredMethods()) {
                check.holds(method + " has a name of its own", !shown.contains(method.getName()));
            }
        }
    }
}
