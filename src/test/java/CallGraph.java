import com.sun.source.tree.ClassTree;
import com.sun.source.tree.MethodInvocationTree;
import com.sun.source.tree.MethodTree;
import com.sun.source.tree.NewClassTree;
import com.sun.source.util.TreePathScanner;
import com.sun.source.util.Trees;
import java.util.ArrayDeque;
import java.util.Deque;
import java.util.HashSet;
import java.util.LinkedHashMap;
import java.util.LinkedHashSet;
import java.util.Map;
import java.util.Set;
import javax.lang.model.element.Element;
import javax.lang.model.element.ElementKind;

/**
 * Which methods of a source call which of its own. The constructors of a class and what stands
 * beside its fields count as one, because the one runs the other.
 */
final class CallGraph extends TreePathScanner<Void, Void> {
  private final Trees trees;
  private final Map<Element, Set<Element>> calls = new LinkedHashMap<>();
  private final Map<Element, Integer> depths = new LinkedHashMap<>();
  private final Set<Element> open = new HashSet<>();
  private final Deque<Element> around = new ArrayDeque<>();
  private String comesBack = "";

  CallGraph(Trees trees) {
    this.trees = trees;
  }

  /** How many calls stand open at once, the first one counted too. */
  int depth() {
    int depth = 0;
    for (Element caller : calls.keySet()) {
      depth = Math.max(depth, depthOf(caller));
    }
    return depth;
  }

  /** The names of the methods that lead back to themselves; to be asked behind the depth. */
  String comesBack() {
    return comesBack;
  }

  private int depthOf(Element caller) {
    if (depths.containsKey(caller)) {
      return depths.get(caller);
    }
    if (!open.add(caller)) {
      comesBack += caller + " ";
      return 0;
    }
    int below = 0;
    for (Element called : calls.get(caller)) {
      if (calls.containsKey(called)) {
        below = Math.max(below, depthOf(called));
      }
    }
    open.remove(caller);
    depths.put(caller, below + 1);
    return below + 1;
  }

  @Override
  public Void visitClass(ClassTree tree, Void none) {
    return visitWithin(nodeHere(), () -> super.visitClass(tree, none));
  }

  @Override
  public Void visitMethod(MethodTree tree, Void none) {
    return visitWithin(nodeHere(), () -> super.visitMethod(tree, none));
  }

  @Override
  public Void visitMethodInvocation(MethodInvocationTree tree, Void none) {
    keepCall();
    return super.visitMethodInvocation(tree, none);
  }

  @Override
  public Void visitNewClass(NewClassTree tree, Void none) {
    keepCall();
    return super.visitNewClass(tree, none);
  }

  private Void visitWithin(Element node, Runnable inside) {
    calls.putIfAbsent(node, new LinkedHashSet<>());
    around.push(node);
    inside.run();
    around.pop();
    return null;
  }

  private void keepCall() {
    Element called = nodeHere();
    // A constructor begins with a call of the one above it, which is none of the source.
    if (called != around.peek() || called.getKind() == ElementKind.METHOD) {
      calls.get(around.peek()).add(called);
    }
  }

  private Element nodeHere() {
    Element element = trees.getElement(getCurrentPath());
    return element.getKind() == ElementKind.CONSTRUCTOR ? element.getEnclosingElement() : element;
  }
}
