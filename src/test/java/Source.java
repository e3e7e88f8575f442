import com.sun.source.tree.ClassTree;
import com.sun.source.tree.CompilationUnitTree;
import com.sun.source.tree.MethodTree;
import com.sun.source.tree.Tree;
import com.sun.source.tree.VariableTree;
import com.sun.source.util.JavacTask;
import com.sun.source.util.TreePath;
import com.sun.source.util.Trees;
import java.nio.file.Path;
import java.util.ArrayList;
import java.util.List;
import javax.lang.model.element.Element;
import javax.lang.model.type.TypeMirror;
import javax.tools.JavaCompiler;
import javax.tools.StandardJavaFileManager;
import javax.tools.ToolProvider;

/** The program's text, as the compiler reads it. */
final class Source {
    private static final Path FILE = Path.of("src/main/java/LetsIn.java");

    final CompilationUnitTree unit;
    private final Trees trees;

    Source() throws Exception {
        JavaCompiler compiler = ToolProvider.getSystemJavaCompiler();
        try (StandardJavaFileManager files = compiler.getStandardFileManager(null, null, null)) {
            JavacTask task = (JavacTask) compiler.getTask(null, files, null, List.of("-proc:none"), null,
                    files.getJavaFileObjects(FILE));
            unit = task.parse().iterator().next();
            task.analyze();
            trees = Trees.instance(task);
        }
    }

    /** Those who stand at the top of the file; LetsIn alone, if all is well. */
    List<ClassTree> top() {
        List<ClassTree> classes = new ArrayList<>();
        for (Tree tree : unit.getTypeDecls()) {
            if (tree instanceof ClassTree) {
                classes.add((ClassTree) tree);
            }
        }
        return classes;
    }

    static <T extends Tree> List<T> members(ClassTree of, Class<T> sort) {
        List<T> found = new ArrayList<>();
        for (Tree member : of.getMembers()) {
            if (sort.isInstance(member)) {
                found.add(sort.cast(member));
            }
        }
        return found;
    }

    Element element(TreePath path) {
        return trees.getElement(path);
    }

    TypeMirror type(TreePath path) {
        return trees.getTypeMirror(path);
    }

    int lines(Tree tree) {
        long from = trees.getSourcePositions().getStartPosition(unit, tree);
        long to = trees.getSourcePositions().getEndPosition(unit, tree);
        return (int) (unit.getLineMap().getLineNumber(to) - unit.getLineMap().getLineNumber(from)) + 1;
    }

    int line(Tree tree) {
        return (int) unit.getLineMap().getLineNumber(trees.getSourcePositions().getStartPosition(unit, tree));
    }

    /** A method as a document prints it: what it answers, its name, its arguments with their names. */
    static String printed(MethodTree method) {
        List<String> arguments = new ArrayList<>();
        for (VariableTree argument : method.getParameters()) {
            arguments.add(argument.getType() + " " + argument.getName());
        }
        return method.getReturnType() + " " + method.getName() + "(" + String.join(", ", arguments) + ")";
    }
}
