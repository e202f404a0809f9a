import java.lang.reflect.InvocationTargetException;
import java.lang.reflect.Method;
import java.util.HashMap;
import java.util.Map;

/** Calls a yard, or its slow twin, by the names of the calls, at most as often as is promised. */
final class Calls {
  /**
   * The calls of the face and what their numbers are: H heap, X coordinate, A any number, P point,
   * W what, K place in a row, G polygon, C corner, L line, N number of points, B yes or no.
   */
  static final String[] FACE = {
    "point HXX", "drop P", "pointOf PW", "count H", "sorted HK", "places H", "turn PPP", "hull H",
    "join HH", "sum HH", "layers H", "layer HK", "hullOf G", "corners ", "corner KB", "area ",
    "edge ", "inner ", "lies AA", "width B", "add GXX", "clear G", "isSimple G", "polygonArea G",
    "polygonEdge G", "polygonInner G", "polygonLies GAA", "holds GH", "triangles G",
    "triangleAt GK", "sees GCC", "view GC", "line XXXX", "clearLines ", "cross LL", "crossings ",
    "crossingAt K", "pair HB", "distance HB", "box HW", "fence HN", "apart HH", "image ",
    "restore ", "checksum ", "meanFar H", "fills ", "errors ",
  };

  private static final int PROMISED = 512;
  private static final Map<Class<?>, Map<String, Method>> METHODS = new HashMap<>();

  private final Object asked;
  private final Map<String, Method> methods;
  private int made = 0;

  Calls(Object asked) {
    this.asked = asked;
    methods = METHODS.computeIfAbsent(asked.getClass(), Calls::methodsOf);
  }

  static String nameOf(String call) {
    return call.substring(0, call.indexOf(' '));
  }

  static String kindsOf(String call) {
    return call.substring(call.indexOf(' ') + 1);
  }

  int left() {
    return PROMISED - made;
  }

  /** The answer, or the name of the exception. */
  String answer(String name, Object... numbers) {
    if (left() <= 0) {
      throw new IllegalStateException("nothing is promised about so many calls");
    }
    made++;
    try {
      return String.valueOf(methods.get(name).invoke(asked, numbers));
    } catch (InvocationTargetException thrown) {
      return thrown.getCause().getClass().getSimpleName();
    } catch (IllegalAccessException thrown) {
      throw new IllegalStateException(thrown);
    }
  }

  static boolean isThrown(String answer) {
    return answer.endsWith("Exception");
  }

  private static Map<String, Method> methodsOf(Class<?> type) {
    Map<String, Method> found = new HashMap<>();
    for (Method method : type.getMethods()) {
      found.put(method.getName(), method);
    }
    return found;
  }
}
