/** Makes yards for the tests. */
final class Make {
  private Make() {
  }

  /** Puts points into a heap: x, y, x, y, and so on. */
  static void points(HullyardSurveys yard, int heap, int... numbers) {
    for (int i = 0; i + 1 < numbers.length; i += 2) {
      yard.point(heap, numbers[i], numbers[i + 1]);
    }
  }

  static HullyardSurveys heap(int... numbers) {
    HullyardSurveys yard = new HullyardSurveys();
    points(yard, 0, numbers);
    return yard;
  }

  static void corners(HullyardSurveys yard, int polygon, int... numbers) {
    for (int i = 0; i + 1 < numbers.length; i += 2) {
      yard.add(polygon, numbers[i], numbers[i + 1]);
    }
  }

  static HullyardSurveys polygon(int... numbers) {
    HullyardSurveys yard = new HullyardSurveys();
    corners(yard, 0, numbers);
    return yard;
  }

  static HullyardSurveys lines(int... numbers) {
    HullyardSurveys yard = new HullyardSurveys();
    for (int i = 0; i + 3 < numbers.length; i += 4) {
      yard.line(numbers[i], numbers[i + 1], numbers[i + 2], numbers[i + 3]);
    }
    return yard;
  }

  /** The corners of the figure, as "x,y x,y". */
  static String figure(HullyardSurveys yard) {
    StringBuilder told = new StringBuilder();
    for (int i = 0; i < yard.corners(); i++) {
      if (i > 0) {
        told.append(' ');
      }
      told.append(yard.corner(i, false)).append(',').append(yard.corner(i, true));
    }
    return told.toString();
  }
}
