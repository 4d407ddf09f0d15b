import com.sun.source.tree.ExpressionTree;
import com.sun.source.tree.MethodInvocationTree;
import com.sun.source.tree.Tree;
import java.util.LinkedHashMap;
import java.util.LinkedHashSet;
import java.util.List;
import java.util.Map;
import java.util.Set;
import javax.lang.model.element.Element;

/** Rules 8 and 11: which method calls which, how deep that goes, and what guards a recursion. */
final class CallChains {
    private static final int DEEPEST = 8;

    private final Map<Element, Set<Element>> called = new LinkedHashMap<>();
    private final Set<Element> unguarded = new LinkedHashSet<>();

    void addMethod(Element method) {
        called.computeIfAbsent(method, key -> new LinkedHashSet<>());
    }

    void addCall(Element caller, Element callee, Tree call) {
        addMethod(caller);
        if (!caller.equals(callee)) {
            called.get(caller).add(callee);
        } else if (!carriesDepth(call)) {
            unguarded.add(caller);
        }
    }

    /** The form in which the class writes a guarded recursion: its last argument is depth + 1. */
    private static boolean carriesDepth(Tree call) {
        if (!(call instanceof MethodInvocationTree)) {
            return false;
        }
        List<? extends ExpressionTree> arguments = ((MethodInvocationTree) call).getArguments();
        return !arguments.isEmpty()
                && arguments.get(arguments.size() - 1).toString().equals("depth + 1");
    }

    void tellBreaches(List<String> breaches) {
        for (Element method : unguarded) {
            breaches.add("8: a recursion without a depth, " + method);
        }
        for (Element method : called.keySet()) {
            int deep = depth(method, new LinkedHashSet<>());
            if (deep > DEEPEST) {
                breaches.add("11: calls more than eight deep, or in a ring, from " + method);
            }
        }
    }

    private int depth(Element method, Set<Element> open) {
        if (!open.add(method)) {
            return DEEPEST + 1;
        }
        int deepest = 0;
        for (Element callee : called.getOrDefault(method, Set.of())) {
            deepest = Math.max(deepest, depth(callee, open));
        }
        open.remove(method);
        return deepest + 1;
    }
}
