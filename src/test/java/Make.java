import java.math.BigInteger;
import java.util.ArrayList;
import java.util.Comparator;
import java.util.List;

/** Makes yards for the tests. */
final class Make {
  private Make() {
  }

  /** Puts points into a heap: x, y, x, y, and so on. */
  static void points(HullyardSurveys yard, int heap, int... numbers) {
    for (int i = 0; i + 1 < numbers.length; i += 2) {
      yard.point(heap, numbers[i], numbers[i + 1]);
    }
  }

  static HullyardSurveys heap(int... numbers) {
    HullyardSurveys yard = new HullyardSurveys();
    points(yard, 0, numbers);
    return yard;
  }

  static void corners(HullyardSurveys yard, int polygon, int... numbers) {
    for (int i = 0; i + 1 < numbers.length; i += 2) {
      yard.add(polygon, numbers[i], numbers[i + 1]);
    }
  }

  static HullyardSurveys polygon(int... numbers) {
    HullyardSurveys yard = new HullyardSurveys();
    corners(yard, 0, numbers);
    return yard;
  }

  static HullyardSurveys lines(int... numbers) {
    HullyardSurveys yard = new HullyardSurveys();
    for (int i = 0; i + 3 < numbers.length; i += 4) {
      yard.line(numbers[i], numbers[i + 1], numbers[i + 2], numbers[i + 3]);
    }
    return yard;
  }

  /** The corners of the figure, as "x,y x,y". */
  static String figure(HullyardSurveys yard) {
    StringBuilder told = new StringBuilder();
    for (int i = 0; i < yard.corners(); i++) {
      if (i > 0) {
        told.append(' ');
      }
      told.append(yard.corner(i, false)).append(',').append(yard.corner(i, true));
    }
    return told.toString();
  }

  /** The 60 shortest sides of unlike directions, in their order round a hull: x, y, x, y. */
  static int[] roundTrip() {
    List<int[]> sides = new ArrayList<>();
    for (int x = -7; x <= 7; x++) {
      for (int y = -7; y <= 7; y++) {
        int divisor = BigInteger.valueOf(x).gcd(BigInteger.valueOf(y)).intValue();
        if (divisor == 1) {
          sides.add(new int[] {x, y});
        }
      }
    }
    // Sides come in pairs, one to and one fro, so the 60 shortest ones lead back.
    sides.sort(
        Comparator.<int[]>comparingInt(s -> s[0] * s[0] + s[1] * s[1])
            .thenComparingInt(s -> Math.abs(s[0]))
            .thenComparingInt(s -> Math.abs(s[0] + s[1])));
    List<int[]> round = new ArrayList<>(sides.subList(0, 60));
    round.sort(Comparator.comparingDouble(s -> -Math.atan2(-s[1], s[0])));
    int[] numbers = new int[120];
    for (int i = 0; i < 60; i++) {
      numbers[2 * i] = round.get(i)[0];
      numbers[2 * i + 1] = round.get(i)[1];
    }
    return numbers;
  }
}
