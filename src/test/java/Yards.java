/** Yards in several states, made by the same calls for the class and for its slow twin. */
final class Yards {
  static final String[] STATES = {"new", "small", "full", "restored", "emptied"};

  private Yards() {
  }

  static Calls make(String state, Object asked) {
    Calls yard = new Calls(asked);
    switch (state) {
      case "new":
        break;
      case "small":
        makeSmall(yard);
        break;
      case "full":
        makeFull(yard);
        break;
      case "restored":
        makeRestored(yard);
        break;
      case "emptied":
        makeEmptied(yard);
        break;
      default:
        throw new IllegalArgumentException(state);
    }
    return yard;
  }

  /**
   * Heap 0 has points 0 to 5, heap 1 has 6 and 8, heap 2 has 9 alone; 7 and 10 are dropped. Polygon
   * 0 is notched, 1 crosses, 2 has two corners, 3 has none. There are three lines, of which two
   * cross. The figure is a square; the image has 3 points, polygon 3 and one line.
   */
  private static void makeSmall(Calls yard) {
    points(yard, 0, 0, 0, 6, 0, 6, 6);
    corners(yard, 3, 0, 0, 9, 0, 0, 9);
    yard.answer("line", 0, 0, 6, 6);
    yard.answer("image");
    points(yard, 0, 0, 6, 3, 3, 3, 3);
    points(yard, 1, 1, 1, 2, 5, 9, 4);
    points(yard, 2, 4, 4, 8, 8);
    yard.answer("drop", 10);
    yard.answer("drop", 7);
    corners(yard, 0, Make.NOTCHED);
    corners(yard, 1, Make.CROSSED);
    corners(yard, 2, 0, 0, 4, 4);
    yard.answer("clear", 3);
    yard.answer("line", 6, 0, 0, 6);
    yard.answer("line", 9, 9, 9, 9);
    yard.answer("hull", 0);
  }

  /** All 60 points, 20 lines, and 16 corners of all polygons but 2, which has 15; no image. */
  private static void makeFull(Calls yard) {
    for (int i = 0; i < 60; i++) {
      yard.answer("point", i % 3, i * i % 11 - 5, i * 7 % 13 - 6);
    }
    corners(yard, 0, Make.SIXTEEN);
    corners(yard, 1, Make.COMB);
    corners(yard, 1, 0, 0, 10, 0, 10, 5, 8, 5);
    corners(yard, 2, java.util.Arrays.copyOf(Make.SIXTEEN, 30));
    for (int i = 30; i >= 0; i -= 2) {
      yard.answer("add", 3, Make.SIXTEEN[i], Make.SIXTEEN[i + 1]);
    }
    for (int i = 0; i < 20; i++) {
      yard.answer("line", i * i % 11, i * 5 % 7, i * 7 % 9, i * 3 % 13);
    }
    yard.answer("sum", 0, 1);
  }

  /** One point, one corner of polygon 0 and one line fewer than there can be; the figure stays. */
  private static void makeRestored(Calls yard) {
    for (int i = 0; i < 59; i++) {
      yard.answer("point", i % 2, i % 8, i / 8);
    }
    corners(yard, 0, java.util.Arrays.copyOf(Make.SIXTEEN, 30));
    for (int i = 0; i < 19; i++) {
      yard.answer("line", i, 0, 20 - i, 9);
    }
    yard.answer("image");
    yard.answer("point", 2, 50, 50);
    yard.answer("add", 0, 50, 50);
    yard.answer("line", 50, 50, 50, 50);
    yard.answer("hull", 2);
    yard.answer("restore");
  }

  /** All points have come and are dropped, corners and lines are cleared; the image is of before. */
  private static void makeEmptied(Calls yard) {
    for (int i = 0; i < 60; i++) {
      yard.answer("point", i % 3, i, i);
    }
    corners(yard, 0, Make.SIXTEEN);
    corners(yard, 3, Make.NOTCHED);
    yard.answer("line", 0, 0, 9, 9);
    yard.answer("image");
    yard.answer("hull", 1);
    for (int i = 0; i < 60; i++) {
      yard.answer("drop", i);
    }
    yard.answer("clear", 0);
    yard.answer("clear", 3);
    yard.answer("clearLines");
  }

  private static void points(Calls yard, int heap, int... numbers) {
    for (int i = 0; i + 1 < numbers.length; i += 2) {
      yard.answer("point", heap, numbers[i], numbers[i + 1]);
    }
  }

  private static void corners(Calls yard, int polygon, int... numbers) {
    for (int i = 0; i + 1 < numbers.length; i += 2) {
      yard.answer("add", polygon, numbers[i], numbers[i + 1]);
    }
  }

  /** All that can be found out about a yard, at its cost: behind it the yard is another one. */
  static String takeApart(Calls yard) {
    StringBuilder told = new StringBuilder();
    tellFigure(yard, told);
    tellHeaps(yard, told);
    tellPolygons(yard, told);
    tellLines(yard, told);
    tell(yard, told, "errors");
    useUp(yard, told);
    tell(yard, told, "restore");
    for (int point = 0; point < 12; point++) {
      tell(yard, told, "pointOf", point, 1);
    }
    tell(yard, told, "checksum");
    useUp(yard, told);
    return told.toString();
  }

  private static int tell(Calls yard, StringBuilder told, String name, Object... numbers) {
    String answer = yard.answer(name, numbers);
    told.append(' ').append(name).append(java.util.Arrays.toString(numbers));
    told.append('=').append(answer);
    return answer.matches("-?[0-9]+") ? Integer.parseInt(answer) : 0;
  }

  private static void tellFigure(Calls yard, StringBuilder told) {
    int corners = tell(yard, told, "corners");
    for (int corner = 0; corner < corners; corner++) {
      tell(yard, told, "corner", corner, false);
      tell(yard, told, "corner", corner, true);
    }
    for (String name : new String[] {"area", "edge", "inner", "fills", "checksum"}) {
      tell(yard, told, name);
    }
  }

  private static void tellHeaps(Calls yard, StringBuilder told) {
    for (int heap = 0; heap < 3; heap++) {
      int count = tell(yard, told, "count", heap);
      for (String name : new String[] {"places", "layers", "meanFar"}) {
        tell(yard, told, name, heap);
      }
      for (int what = 0; what < 4; what++) {
        tell(yard, told, "box", heap, what);
      }
      for (int place = 0; place < count; place++) {
        tell(yard, told, "sorted", heap, place);
      }
    }
    for (int point = 0; point < 60; point++) {
      tell(yard, told, "pointOf", point, point % 3);
    }
  }

  private static void tellPolygons(Calls yard, StringBuilder told) {
    for (int polygon = 0; polygon < 4; polygon++) {
      tell(yard, told, "isSimple", polygon);
      tell(yard, told, "polygonArea", polygon);
      tell(yard, told, "polygonEdge", polygon);
      int triangles = tell(yard, told, "triangles", polygon);
      for (int triangle = 0; triangle < triangles; triangle++) {
        tell(yard, told, "triangleAt", polygon, triangle);
      }
    }
  }

  private static void tellLines(Calls yard, StringBuilder told) {
    int crossings = tell(yard, told, "crossings");
    for (int place = 0; place < Math.min(crossings, 6); place++) {
      tell(yard, told, "crossingAt", crossings - 1 - place);
    }
  }

  /** Makes and takes away what is only told when it is made or taken away. */
  private static void useUp(Calls yard, StringBuilder told) {
    tell(yard, told, "point", 0, 5, 6);
    tell(yard, told, "line", 1, 2, 3, 4);
    tell(yard, told, "crossings");
    tell(yard, told, "clearLines");
    for (int polygon = 0; polygon < 4; polygon++) {
      tell(yard, told, "add", polygon, 7, -3);
      tell(yard, told, "polygonArea", polygon);
      tell(yard, told, "hullOf", polygon);
      tell(yard, told, "checksum");
      tell(yard, told, "clear", polygon);
    }
  }
}
