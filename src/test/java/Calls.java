import com.sun.source.tree.MethodInvocationTree;
import com.sun.source.tree.MethodTree;
import com.sun.source.tree.NewClassTree;
import com.sun.source.util.TreePathScanner;
import java.util.ArrayList;
import java.util.HashMap;
import java.util.LinkedHashMap;
import java.util.LinkedHashSet;
import java.util.List;
import java.util.Map;
import java.util.Set;
import javax.lang.model.element.Element;

/** Which methods and constructors of the program call which ones. */
final class Calls extends TreePathScanner<Void, Element> {
    private final Program program;
    private final Map<Element, Set<Element>> calls = new LinkedHashMap<>();
    private final Map<Element, List<String>> deepest = new HashMap<>();
    private final Set<Element> open = new LinkedHashSet<>();
    private String circle = "";

    Calls(Program program) {
        this.program = program;
        scan(program.unit, null);
        calls.keySet().forEach(this::deepestFrom);
    }

    /** The names of the most methods that are open at once. */
    List<String> deepest() {
        List<String> most = List.of();
        for (List<String> names : deepest.values()) {
            most = names.size() > most.size() ? names : most;
        }
        return most;
    }

    /** Methods that call one another in a circle; empty if there are none. */
    String circle() {
        return circle;
    }

    private List<String> deepestFrom(Element method) {
        if (open.contains(method)) {
            circle = open.toString();
            return List.of();
        }
        if (!deepest.containsKey(method)) {
            open.add(method);
            List<String> most = List.of();
            for (Element called : calls.getOrDefault(method, Set.of())) {
                List<String> names = deepestFrom(called);
                most = names.size() > most.size() ? names : most;
            }
            open.remove(method);
            List<String> all = new ArrayList<>(List.of(method.getSimpleName().toString()));
            all.addAll(most);
            deepest.put(method, all);
        }
        return deepest.get(method);
    }

    @Override
    public Void visitMethod(MethodTree tree, Element outer) {
        Element method = program.elementOf(getCurrentPath());
        calls.put(method, new LinkedHashSet<>());
        return super.visitMethod(tree, method);
    }

    @Override
    public Void visitMethodInvocation(MethodInvocationTree tree, Element method) {
        note(method);
        return super.visitMethodInvocation(tree, method);
    }

    @Override
    public Void visitNewClass(NewClassTree tree, Element method) {
        note(method);
        return super.visitNewClass(tree, method);
    }

    private void note(Element method) {
        Element called = program.elementOf(getCurrentPath());
        if (method != null && program.isOwn(called.getEnclosingElement().asType())) {
            calls.get(method).add(called);
        }
    }
}
