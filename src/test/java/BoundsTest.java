import java.util.Arrays;
import java.util.HashMap;
import java.util.Map;
import java.util.Set;

/**
 * Every call with every mixture of numbers at its bounds, just within them and just beyond them, in
 * yards that are new, small, full, nearly full and emptied, against the slow twin. Behind a call
 * that is refused, or that only asks, the yard is what it was; behind another one it is what the
 * twin is.
 */
public final class BoundsTest {
  private static final int LEAST = Integer.MIN_VALUE;
  private static final int MOST = Integer.MAX_VALUE;
  private static final Set<String> CHANGES =
      Set.of(
          "point", "drop", "hull", "join", "sum", "layer", "hullOf", "add", "clear", "line",
          "clearLines", "image", "restore");

  private final Due due = new Due();
  private final Map<String, String> untouched = new HashMap<>();
  private int refused = 0;

  public static void main(String[] args) {
    BoundsTest test = new BoundsTest();
    for (String state : Yards.STATES) {
      test.untouched.put(state, Yards.takeApart(Yards.make(state, new Twin())));
      for (String call : Calls.FACE) {
        test.mix(state, call, new Object[Calls.kindsOf(call).length()], 0);
      }
    }
    test.due.same("many calls are refused", test.refused > 10000, true);
    test.due.end();
  }

  /** Sets the number at a place, and those behind it, to all that they can be. */
  private void mix(String state, String call, Object[] numbers, int place) {
    if (place == numbers.length) {
      ask(state, Calls.nameOf(call), numbers);
      return;
    }
    char kind = Calls.kindsOf(call).charAt(place);
    if (kind == 'B') {
      numbers[place] = false;
      mix(state, call, numbers, place + 1);
      numbers[place] = true;
      mix(state, call, numbers, place + 1);
      return;
    }
    for (int number : bounds(kind)) {
      numbers[place] = number;
      mix(state, call, numbers, place + 1);
    }
  }

  private void ask(String state, String name, Object[] numbers) {
    String told = state + " yard: " + name + Arrays.toString(numbers);
    Calls yard = Yards.make(state, new HullyardSurveys());
    Calls twin = Yards.make(state, new Twin());
    String want = twin.answer(name, numbers);
    due.sameText(told, yard.answer(name, numbers), want);
    boolean isRefused = Calls.isThrown(want);
    refused += isRefused ? 1 : 0;
    boolean isTouched = CHANGES.contains(name) && !isRefused;
    String after = isTouched ? Yards.takeApart(twin) : untouched.get(state);
    due.sameText("what is found after " + told, Yards.takeApart(yard), after);
  }

  private static int[] bounds(char kind) {
    switch (kind) {
      case 'H':
        return new int[] {LEAST, -1, 0, 1, 2, 3, MOST};
      case 'X':
        return new int[] {LEAST, -201, -200, 200, 201, MOST};
      case 'A':
        return new int[] {LEAST, -201, -1, 0, 1, 4, 1 << 30, MOST};
      case 'P':
        return new int[] {LEAST, -1, 0, 7, 9, 10, 11, 58, 59, 60, MOST};
      case 'W':
        return new int[] {LEAST, -1, 0, 1, 2, 3, 4, MOST};
      case 'K':
        return new int[] {LEAST, -1, 0, 1, 2, 3, 5, 6, 13, 14, 19, 20, 59, 60, 189, MOST};
      case 'G':
        return new int[] {LEAST, -1, 0, 1, 2, 3, 4, MOST};
      case 'C':
        return new int[] {LEAST, -1, 0, 1, 2, 4, 5, 14, 15, 16, MOST};
      case 'L':
        return new int[] {LEAST, -1, 0, 1, 2, 3, 18, 19, 20, MOST};
      case 'N':
        return new int[] {LEAST, -1, 0, 1, 2, 6, 7, 20, 30, 59, 60, 61, MOST};
      default:
        throw new IllegalArgumentException(String.valueOf(kind));
    }
  }
}
