import java.util.ArrayList;
import java.util.Arrays;
import java.util.Collections;
import java.util.List;
import java.util.Set;

/**
 * Long runs of calls on the class and on its slow twin. The calls are drawn by a formula, so every
 * run of this test makes the same ones. A first argument sets another number of runs.
 */
public final class TwinTest {
  /** Calls that are drawn more often than the others. */
  private static final String[] OFTEN = {
    "point HXX", "point HXX", "point HXX", "lies AA", "polygonLies GAA", "triangleAt GK",
    "sees GCC", "line XXXX", "fence HN", "apart HH",
  };

  /** A polygon that grows takes fewer calls than these. */
  private static final int CALLS_TO_GROW = 100;
  private static final Set<String> MAKES_FIGURES =
      Set.of("hull", "join", "sum", "layer", "hullOf");
  private static final int[] SPANS = {1, 2, 3, 4, 5, 7, 12, 30, 200};

  private final Due due = new Due();
  private long drawn = 20261119L;
  private int span = 4;
  private Twin twin;
  private Calls yardCalls;
  private Calls twinCalls;

  public static void main(String[] args) {
    TwinTest test = new TwinTest();
    int runs = args.length > 0 ? Integer.parseInt(args[0]) : 500;
    if (args.length > 1) {
      test.drawn = Long.parseLong(args[1]);
    }
    for (int run = 0; run < runs; run++) {
      test.run(run);
    }
    test.due.end();
  }

  private int draw(int below) {
    drawn = drawn * 6364136223846793005L + 1442695040888963407L;
    return (int) Math.floorMod(drawn >>> 33, (long) below);
  }

  private void run(int run) {
    twin = new Twin();
    twinCalls = new Calls(twin);
    yardCalls = new Calls(new HullyardSurveys());
    span = SPANS[run % SPANS.length];
    // The slow twin does not get through many points with unlike numbers.
    int mostPoints = span > 12 ? 12 + draw(10) : 60;
    fill(run, draw(mostPoints + 1));
    while (yardCalls.left() > CALLS_TO_GROW) {
      if (draw(25) == 0) {
        grow(run);
        continue;
      }
      int drawnCall = draw(Calls.FACE.length + OFTEN.length);
      String call =
          drawnCall < OFTEN.length ? OFTEN[drawnCall] : Calls.FACE[drawnCall - OFTEN.length];
      String name = Calls.nameOf(call);
      boolean isSeldom =
          name.equals("clearLines")
              || name.equals("image")
              || name.equals("restore")
              || (name.equals("point") && twin.pointsCome() >= mostPoints);
      if (!isSeldom || draw(5) == 0) {
        ask(run, name, numbers(Calls.kindsOf(call)));
      }
    }
    ask(run, "checksum", new Object[] {});
  }

  /** Puts points into all heaps, or into one, and asks for its layers. */
  private void fill(int run, int wanted) {
    boolean isOneHeap = draw(2) == 0;
    for (int i = 0; i < wanted; i++) {
      int heap = isOneHeap ? run % 3 : draw(3);
      ask(run, "point", new Object[] {heap, coordinate(), coordinate()});
    }
    int layers = twin.layers(run % 3);
    for (int layer = 0; layer <= layers; layer++) {
      ask(run, "layer", new Object[] {run % 3, layer});
      ask(run, "width", new Object[] {layer % 2 == 0});
    }
    for (int place = 0; place <= twin.count(run % 3); place++) {
      ask(run, "sorted", new Object[] {run % 3, place});
    }
  }

  /** Makes one polygon a simple one, going round to the left or to the right. */
  private void grow(int run) {
    int polygon = draw(4);
    List<int[]> shape = new ArrayList<>();
    int wanted = 3 + draw(14);
    for (int tries = 0; tries < 200 && shape.size() < wanted; tries++) {
      int[] corner = {coordinate(), coordinate()};
      int at = shape.isEmpty() ? 0 : draw(shape.size() + 1);
      if (shape.size() < 2 || twin.staysSimple(shape, at, corner[0], corner[1])) {
        shape.add(at, corner);
      }
    }
    if (draw(2) == 0) {
      Collections.reverse(shape);
    }
    ask(run, "clear", new Object[] {polygon});
    for (int[] corner : shape) {
      ask(run, "add", new Object[] {polygon, corner[0], corner[1]});
    }
    String[] asked = {"isSimple", "polygonArea", "polygonEdge", "polygonInner", "triangles"};
    for (String name : asked) {
      ask(run, name, new Object[] {polygon});
    }
    for (int i = 0; i <= shape.size() - 2; i++) {
      ask(run, "triangleAt", new Object[] {polygon, i});
    }
    for (int i = 0; i <= shape.size(); i++) {
      ask(run, "view", new Object[] {polygon, i});
      ask(run, "sees", new Object[] {polygon, i, draw(shape.size())});
    }
    ask(run, "errors", new Object[] {});
  }

  private Object[] numbers(String kinds) {
    Object[] numbers = new Object[kinds.length()];
    for (int i = 0; i < numbers.length; i++) {
      numbers[i] = kinds.charAt(i) == 'B' ? (Object) (draw(2) == 0) : (Object) number(kinds.charAt(i));
    }
    return numbers;
  }

  private int number(char kind) {
    if (draw(60) == 0) {
      int[] odd = {-1, Integer.MIN_VALUE, Integer.MAX_VALUE, 201, -201, 60, 20, 16, 4, 3};
      return odd[draw(odd.length)];
    }
    switch (kind) {
      case 'H':
        return draw(3);
      case 'X':
        return coordinate();
      case 'A':
        return draw(30) == 0 ? (int) drawn : draw(4 * span + 3) - 2 * span - 1;
      case 'P':
        return draw(Math.min(twin.pointsCome() + 1, 60));
      case 'W':
        return draw(4);
      case 'G':
        return draw(4);
      case 'L':
        return draw(12);
      case 'N':
        return 1 + draw(draw(3) == 0 ? 60 : 12);
      default:
        return draw(9);
    }
  }

  private int coordinate() {
    return draw(2 * span + 1) - span;
  }

  private void ask(int run, String name, Object[] numbers) {
    String told = "run " + run + ": " + name + Arrays.toString(numbers);
    String want = twinCalls.answer(name, numbers);
    due.sameText(told, yardCalls.answer(name, numbers), want);
    if (MAKES_FIGURES.contains(name) && yardCalls.left() > 0) {
      String figure = twinCalls.answer("checksum");
      due.sameText("the figure after " + told, yardCalls.answer("checksum"), figure);
    }
  }
}
