import java.math.BigInteger;
import java.util.ArrayList;
import java.util.Comparator;
import java.util.List;

/** Makes yards for the tests. */
final class Make {
  /** A square with a notch from above: corner 3 is at the bottom of the notch. */
  static final int[] NOTCHED = {0, 0, 4, 0, 4, 4, 2, 1, 0, 4};
  /** A comb with three teeth up. */
  static final int[] COMB = {
    0, 0, 10, 0, 10, 5, 8, 5, 8, 2, 6, 2, 6, 5, 4, 5, 4, 2, 2, 2, 2, 5, 0, 5,
  };
  /** Four corners of which two edges cross. */
  static final int[] CROSSED = {0, 0, 2, 2, 0, 2, 2, 0};
  /** As many corners as a polygon can have, going round a convex one to the left. */
  static final int[] SIXTEEN = {
    -4, -10, -1, -11, 1, -11, 4, -10, 8, -7, 10, -4, 11, -1, 11, 1, 10, 4, 7, 8, 4, 10, 1, 11, -1,
    11, -4, 10, -8, 7, -11, 1,
  };
  static final int SIXTEEN_AREA = 685;

  private Make() {
  }

  /** Puts points into a heap: x, y, x, y, and so on. */
  static void points(HullyardSurveys yard, int heap, int... numbers) {
    for (int i = 0; i + 1 < numbers.length; i += 2) {
      yard.point(heap, numbers[i], numbers[i + 1]);
    }
  }

  static HullyardSurveys heap(int... numbers) {
    HullyardSurveys yard = new HullyardSurveys();
    points(yard, 0, numbers);
    return yard;
  }

  static void corners(HullyardSurveys yard, int polygon, int... numbers) {
    for (int i = 0; i + 1 < numbers.length; i += 2) {
      yard.add(polygon, numbers[i], numbers[i + 1]);
    }
  }

  static HullyardSurveys polygon(int... numbers) {
    HullyardSurveys yard = new HullyardSurveys();
    corners(yard, 0, numbers);
    return yard;
  }

  static HullyardSurveys lines(int... numbers) {
    HullyardSurveys yard = new HullyardSurveys();
    for (int i = 0; i + 3 < numbers.length; i += 4) {
      yard.line(numbers[i], numbers[i + 1], numbers[i + 2], numbers[i + 3]);
    }
    return yard;
  }

  /** The corners of the figure, as "x,y x,y". */
  static String figure(HullyardSurveys yard) {
    StringBuilder told = new StringBuilder();
    for (int i = 0; i < yard.corners(); i++) {
      if (i > 0) {
        told.append(' ');
      }
      told.append(yard.corner(i, false)).append(',').append(yard.corner(i, true));
    }
    return told.toString();
  }

  /** 60 corners of a convex polygon, from the first one in order, to the left: x, y, x, y. */
  static int[] sixtyCorners() {
    List<int[]> sides = new ArrayList<>();
    for (int x = -7; x <= 7; x++) {
      for (int y = -7; y <= 7; y++) {
        if (BigInteger.valueOf(x).gcd(BigInteger.valueOf(y)).intValue() == 1) {
          sides.add(new int[] {x, y});
        }
      }
    }
    // Sides come in pairs, one to and one fro, so the 60 shortest ones lead back.
    sides.sort(
        Comparator.<int[]>comparingInt(s -> s[0] * s[0] + s[1] * s[1])
            .thenComparingInt(s -> Math.abs(s[0]))
            .thenComparingInt(s -> Math.abs(s[0] + s[1])));
    List<int[]> round = new ArrayList<>(sides.subList(0, 60));
    round.sort(Comparator.comparingDouble(Make::direction));
    int[] numbers = new int[120];
    int x = -60;
    int y = -30;
    for (int i = 0; i < 60; i++) {
      numbers[2 * i] = x;
      numbers[2 * i + 1] = y;
      x += round.get(i)[0];
      y += round.get(i)[1];
    }
    return numbers;
  }

  /** Round a hull the sides to the right come first, the one straight down comes last. */
  private static double direction(int[] side) {
    double angle = Math.atan2(side[1], side[0]);
    boolean isLate = side[1] < 0 && side[0] <= 0;
    return isLate ? angle + 2 * Math.PI : angle;
  }
}
