import com.sun.source.tree.CompilationUnitTree;
import com.sun.source.tree.Tree;
import com.sun.source.util.JavacTask;
import com.sun.source.util.SourcePositions;
import com.sun.source.util.TreePath;
import com.sun.source.util.Trees;
import java.io.IOException;
import java.nio.file.Path;
import java.util.List;
import javax.lang.model.element.Element;
import javax.lang.model.element.ElementKind;
import javax.lang.model.type.DeclaredType;
import javax.lang.model.type.TypeMirror;
import javax.tools.JavaCompiler;
import javax.tools.StandardJavaFileManager;
import javax.tools.ToolProvider;

/** The syntax tree of the program, as javac reads it. */
final class Program {
    private static final Path FILE = Path.of("src/main/java/HotelNights.java");

    final CompilationUnitTree unit;
    private final Trees trees;

    private Program(CompilationUnitTree unit, Trees trees) {
        this.unit = unit;
        this.trees = trees;
    }

    static Program read() throws IOException {
        JavaCompiler compiler = ToolProvider.getSystemJavaCompiler();
        StandardJavaFileManager files = compiler.getStandardFileManager(null, null, null);
        JavacTask task = (JavacTask) compiler.getTask(null, files, null, List.of("-proc:none"), null,
                files.getJavaFileObjects(FILE));
        CompilationUnitTree unit = task.parse().iterator().next();
        task.analyze();
        return new Program(unit, Trees.instance(task));
    }

    Element elementOf(TreePath path) {
        return trees.getElement(path);
    }

    TypeMirror typeOf(TreePath path) {
        return trees.getTypeMirror(path);
    }

    /** The name of a class without its type arguments. */
    String nameOf(TypeMirror type) {
        return type instanceof DeclaredType ? ((DeclaredType) type).asElement().toString() : type.toString();
    }

    boolean isOwn(TypeMirror type) {
        String name = nameOf(type);
        return name.equals("HotelNights") || name.startsWith("HotelNights.");
    }

    boolean isEnum(TypeMirror type) {
        return type instanceof DeclaredType && ((DeclaredType) type).asElement().getKind() == ElementKind.ENUM;
    }

    long lineOf(Tree tree) {
        return unit.getLineMap().getLineNumber(trees.getSourcePositions().getStartPosition(unit, tree));
    }

    int linesOf(Tree tree) {
        SourcePositions positions = trees.getSourcePositions();
        long last = unit.getLineMap().getLineNumber(positions.getEndPosition(unit, tree));
        return (int) (last - lineOf(tree)) + 1;
    }
}
