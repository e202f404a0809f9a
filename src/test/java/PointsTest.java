import java.util.NoSuchElementException;

/** Section 1 of the terms, and promises 1 to 8, sentence by sentence. */
public final class PointsTest {
  private static final Class<IllegalArgumentException> BAD = IllegalArgumentException.class;
  private static final Class<IllegalStateException> STATE = IllegalStateException.class;
  private static final Class<IndexOutOfBoundsException> NONE = IndexOutOfBoundsException.class;
  private static final Class<NoSuchElementException> EMPTY = NoSuchElementException.class;

  private static final int LEAST = Integer.MIN_VALUE;
  private static final int MOST = Integer.MAX_VALUE;
  private static final int[] NO_HEAPS = {-1, 3, LEAST, MOST};
  private static final int[] TOO_FAR = {-201, 201, LEAST, MOST};

  private final Due due = new Due();
  private final Told told = new Told(due);

  private PointsTest() throws java.io.IOException {
  }

  public static void main(String[] args) throws java.io.IOException {
    PointsTest test = new PointsTest();
    test.heapsAndNumbers();
    test.newYard();
    test.newFigure();
    test.point();
    test.pointRefuses();
    test.drop();
    test.pointOf();
    test.count();
    test.sorted();
    test.places();
    test.turn();
    test.due.end();
  }

  /** A yard of which heap 0 has had all the points that can come. */
  private static HullyardSurveys sixty() {
    HullyardSurveys yard = new HullyardSurveys();
    for (int i = 0; i < 60; i++) {
      yard.point(0, i, -i);
    }
    return yard;
  }

  private void heapsAndNumbers() {
    told.section(1, "\n2. The figure");

    told.says("There are three heaps, 0 to 2.");
    HullyardSurveys yard = new HullyardSurveys();
    Make.points(yard, 0, 0, 0);
    Make.points(yard, 1, 0, 0, 1, 1);
    Make.points(yard, 2, 0, 0, 1, 1, 2, 2);
    for (int heap = 0; heap < 3; heap++) {
      due.same("count of " + heap, yard.count(heap), heap + 1);
    }
    due.raises("count of -1", BAD, () -> yard.count(-1));
    due.raises("count of 3", BAD, () -> yard.count(3));

    told.says("Points are numbered from 0 as they come,");
    HullyardSurveys mixed = new HullyardSurveys();
    due.same("the first point, of heap 2", mixed.point(2, 5, 5), 0);
    due.same("the next one, of heap 0", mixed.point(0, -5, 5), 1);
    due.same("the next one, of heap 2", mixed.point(2, -9, 5), 2);

    told.says("at most 60 ever;");
    HullyardSurveys full = new HullyardSurveys();
    for (int number = 0; number < 60; number++) {
      due.same("point", full.point(number % 3, 0, 0), number);
    }
    due.raises("the 61st point", STATE, () -> full.point(0, 0, 0));
    for (int number = 0; number < 60; number++) {
      full.drop(number);
    }
    due.raises("the 61st point, all dropped", STATE, () -> full.point(1, 0, 0));

    told.says("each one is of a heap, with x and y from -200 to 200;");
    HullyardSurveys far = Make.heap(-200, 200, 200, -200);
    due.same("x of 0", far.pointOf(0, 1), -200);
    due.same("y of 0", far.pointOf(0, 2), 200);
    due.same("x of 1", far.pointOf(1, 1), 200);
    due.same("y of 1", far.pointOf(1, 2), -200);
    due.same("heap of 1", far.pointOf(1, 0), 0);

    told.says("several can be at one place.");
    HullyardSurveys heaped = Make.heap(7, 7, 7, 7, 7, 7);
    Make.points(heaped, 1, 7, 7);
    due.same("count at one place", heaped.count(0), 3);
    due.same("count at one place, of another heap", heaped.count(1), 1);

    droppedPoints();
    told.says(
        "Points are in order by x, those with the same x by y, those at one place by their"
            + " numbers.");
    order(Make.heap(5, 0, -200, 200, -200, -200, 5, 0, 5, -1, 4, 9), 2, 1, 5, 4, 0, 3);
    order(Make.heap(1, 1, 0, 2, -1, 3), 2, 1, 0);
    order(Make.heap(0, 3, 0, -3, 0, 0), 1, 2, 0);
    order(Make.heap(0, 0, 0, 0, 0, 0, -1, 0), 3, 0, 1, 2);

    told.says(
        "The turn of three places a, b, c is the sign of (bx - ax) * (cy - ay) - (by - ay) * (cx"
            + " - ax): 1 to the left, -1 to the right, 0 if they are on a line.");
    HullyardSurveys corner = Make.heap(0, 0, 4, 0, 4, 3, 9, 0);
    due.same("turn to the left", corner.turn(0, 1, 2), 1);
    due.same("turn to the right", corner.turn(0, 2, 1), -1);
    due.same("turn on a line", corner.turn(0, 1, 3), 0);
    told.end();
  }

  private void droppedPoints() {
    told.says("A point can be dropped; it is in no heap then, and its number is not given again.");
    HullyardSurveys yard = Make.heap(0, 0, 4, 0, 0, 4, 9, 9);
    yard.drop(3);
    due.same("count after a drop", yard.count(0), 3);
    for (int heap = 0; heap < 3; heap++) {
      due.same("count of " + heap + " after a drop", yard.count(heap), heap == 0 ? 3 : 0);
    }
    due.raises("its place in order", NONE, () -> yard.sorted(0, 3));
    due.same("hull without it", yard.hull(0), 3);
    due.same("the greatest x without it", yard.box(0, 1), 4);
    due.same("the next number", yard.point(0, 1, 1), 4);
    due.raises("the dropped one is not there", NONE, () -> yard.pointOf(3, 0));
  }

  private void order(HullyardSurveys yard, int... numbers) {
    for (int place = 0; place < numbers.length; place++) {
      due.same("sorted " + place, yard.sorted(0, place), numbers[place]);
    }
  }

  private void newYard() {
    told.promise(1);
    told.says("Creates a yard without points, corners of polygons and lines;");
    HullyardSurveys yard = new HullyardSurveys();
    for (int heap = 0; heap < 3; heap++) {
      int asked = heap;
      due.same("count", yard.count(heap), 0);
      due.same("places", yard.places(heap), 0);
      due.same("layers", yard.layers(heap), 0);
      due.sameReal("meanFar", yard.meanFar(heap), 0.0);
      due.raises("hull", EMPTY, () -> yard.hull(asked));
    }
    due.raises("pointOf", NONE, () -> yard.pointOf(0, 0));
    for (int polygon = 0; polygon < 4; polygon++) {
      due.same("isSimple", yard.isSimple(polygon), false);
      due.same("polygonArea", yard.polygonArea(polygon), 0);
      due.same("clear", yard.clear(polygon), 0);
    }
    due.same("clearLines", yard.clearLines(), 0);
    due.same("crossings", yard.crossings(), 0);
    due.raises("cross", NONE, () -> yard.cross(0, 0));
    due.same("errors", yard.errors(), 0);
    due.raises("restore", EMPTY, yard::restore);
    due.same("image", yard.image(), 0);
    HullyardSurveys other = Make.heap(1, 1);
    other.add(0, 1, 1);
    other.line(0, 0, 1, 1);
    HullyardSurveys later = new HullyardSurveys();
    due.same("count of a later yard", later.count(0), 0);
    due.same("clear of a later yard", later.clear(0), 0);
    due.same("clearLines of a later yard", later.clearLines(), 0);
  }

  private void newFigure() {
    told.says("the figure is nothing.");
    HullyardSurveys yard = new HullyardSurveys();
    due.same("corners", yard.corners(), 0);
    due.raises("corner", NONE, () -> yard.corner(0, false));
    due.same("area", yard.area(), 0);
    due.same("edge", yard.edge(), 0);
    due.same("inner", yard.inner(), 0);
    due.same("lies", yard.lies(0, 0), -1);
    due.same("checksum", yard.checksum(), 17);
    due.sameReal("fills", yard.fills(), 0.0f);
    due.raises("width", STATE, () -> yard.width(false));
    told.end();
  }

  private void point() {
    told.promise(2);
    told.says("A point comes.");
    HullyardSurveys yard = Make.heap(1, 2);
    due.same("count behind it", yard.count(0), 1);
    due.same("its x", yard.pointOf(0, 1), 1);
    due.same("its y", yard.pointOf(0, 2), 2);

    told.says("- `heap`: 0 to 2");
    HullyardSurveys heaps = new HullyardSurveys();
    for (int heap = 0; heap < 3; heap++) {
      due.same("point of " + heap, heaps.point(heap, 0, 0), heap);
    }
    for (int heap : NO_HEAPS) {
      due.raises("point of " + heap, BAD, () -> heaps.point(heap, 0, 0));
    }

    told.says("- `x`: -200 to 200");
    HullyardSurveys wide = new HullyardSurveys();
    due.same("point at x -200", wide.point(0, -200, 0), 0);
    due.same("point at x 200", wide.point(0, 200, 0), 1);
    for (int far : TOO_FAR) {
      due.raises("point at x " + far, BAD, () -> wide.point(0, far, 0));
    }

    told.says("- `y`: -200 to 200");
    HullyardSurveys high = new HullyardSurveys();
    due.same("point at y -200", high.point(0, 0, -200), 0);
    due.same("point at y 200", high.point(0, 0, 200), 1);
    for (int far : TOO_FAR) {
      due.raises("point at y " + far, BAD, () -> high.point(0, 0, far));
    }

    told.says("Returns its number.");
    HullyardSurveys numbered = new HullyardSurveys();
    due.same("the first one", numbered.point(1, 0, 0), 0);
    due.same("the next one", numbered.point(1, 0, 0), 1);
    numbered.drop(0);
    due.same("the one after a drop", numbered.point(1, 0, 0), 2);
  }

  private void pointRefuses() {
    told.says("Throws `IllegalArgumentException` if a number is out of range");
    HullyardSurveys yard = Make.heap(1, 2, 3, 4);
    due.raises("all three out of range", BAD, () -> yard.point(3, 201, -201));
    due.same("the number of the next one", yard.point(0, 0, 0), 2);
    due.same("count behind it", yard.count(0), 3);
    HullyardSurveys full = sixty();
    due.raises("a heap out of range, 60 have come", BAD, () -> full.point(3, 0, 0));
    due.raises("x out of range, 60 have come", BAD, () -> full.point(0, 201, 0));
    due.raises("y out of range, 60 have come", BAD, () -> full.point(0, 0, -201));

    told.says("Throws `IllegalStateException` if 60 have come");
    HullyardSurveys many = sixty();
    due.same("the last one is there", many.pointOf(59, 1), 59);
    due.raises("the 61st", STATE, () -> many.point(0, 0, 0));
    due.raises("the 61st, of an empty heap", STATE, () -> many.point(2, 0, 0));
    many.drop(59);
    due.raises("the 61st, the last one dropped", STATE, () -> many.point(0, 0, 0));
    due.same("count behind it", many.count(0), 59);
    told.end();
  }

  private void drop() {
    told.promise(3);
    told.says("Drops a point.");
    HullyardSurveys yard = Make.heap(0, 0, 1, 1, 2, 2);
    Make.points(yard, 1, 3, 3);
    yard.drop(1);
    due.raises("it is not there", NONE, () -> yard.pointOf(1, 0));
    due.same("the one ahead is there", yard.pointOf(0, 1), 0);
    due.same("the one behind is there", yard.pointOf(2, 1), 2);

    told.says("- `point`: number of a point");
    HullyardSurveys all = sixty();
    due.same("drop of 0", all.drop(0), 59);
    due.same("drop of 59", all.drop(59), 58);

    told.says("Returns the number of points that are left in its heap.");
    due.same("of a heap of two", yard.drop(0), 1);
    due.same("of another heap", yard.drop(3), 0);
    due.same("of the last one", yard.drop(2), 0);

    told.says("Throws `IndexOutOfBoundsException` if there is no such point");
    HullyardSurveys one = Make.heap(1, 1, 2, 2);
    one.drop(0);
    for (int point : new int[] {0, 2, -1, 59, 60, LEAST, MOST}) {
      due.raises("drop " + point, NONE, () -> one.drop(point));
    }
    due.same("the other one is left", one.drop(1), 0);
    due.raises("drop 0 of a new yard", NONE, () -> new HullyardSurveys().drop(0));
    told.end();
  }

  private void pointOf() {
    told.promise(4);
    told.says("Tells about a point.", "Returns what is asked.");
    HullyardSurveys yard = Make.heap(7, -8);
    Make.points(yard, 2, -9, 10);
    due.same("x of 0", yard.pointOf(0, 1), 7);
    due.same("y of 1", yard.pointOf(1, 2), 10);

    told.says("- `point`: number of a point");
    HullyardSurveys all = sixty();
    due.same("x of 0", all.pointOf(0, 1), 0);
    due.same("x of 59", all.pointOf(59, 1), 59);

    told.says("- `what`: 0 its heap, 1 its x, 2 its y");
    due.same("what 0", yard.pointOf(1, 0), 2);
    due.same("what 1", yard.pointOf(1, 1), -9);
    due.same("what 2", yard.pointOf(1, 2), 10);

    told.says("Throws `IndexOutOfBoundsException` if there is no such point");
    for (int point : new int[] {-1, 2, 60, LEAST, MOST}) {
      due.raises("pointOf " + point, NONE, () -> yard.pointOf(point, 1));
      due.raises("pointOf " + point + ", what out of range", NONE, () -> yard.pointOf(point, 3));
    }
    due.raises("pointOf 60, 60 have come", NONE, () -> all.pointOf(60, 0));
    all.drop(59);
    due.raises("pointOf a dropped one", NONE, () -> all.pointOf(59, 0));
    due.raises("pointOf a dropped one, what out of range", NONE, () -> all.pointOf(59, -1));

    told.says("Throws `IllegalArgumentException` if what is out of range");
    for (int what : new int[] {-1, 3, LEAST, MOST}) {
      due.raises("what " + what, BAD, () -> yard.pointOf(0, what));
    }
    told.end();
  }

  private void count() {
    told.promise(5);
    told.says("Counts the points of a heap.", "Returns how many there are.");
    HullyardSurveys yard = Make.heap(0, 0, 0, 0, 1, 0);
    Make.points(yard, 1, 0, 0);
    due.same("count of 0", yard.count(0), 3);
    due.same("count of 1", yard.count(1), 1);
    due.same("count of none", yard.count(2), 0);
    yard.drop(1);
    due.same("count after a drop", yard.count(0), 2);
    due.same("count of 60", sixty().count(0), 60);

    told.says("- `heap`: 0 to 2");
    HullyardSurveys last = new HullyardSurveys();
    last.point(2, 0, 0);
    due.same("count of 0", last.count(0), 0);
    due.same("count of 2", last.count(2), 1);

    told.says("Throws `IllegalArgumentException` if heap is out of range");
    for (int heap : NO_HEAPS) {
      due.raises("count of " + heap, BAD, () -> yard.count(heap));
    }
    yard.drop(0);
    due.raises("count of -1 after drops", BAD, () -> yard.count(-1));
    told.end();
  }

  private void sorted() {
    told.promise(6);
    told.says("Returns a point of a heap by its place in order.", "Returns its number.");
    HullyardSurveys yard = Make.heap(3, 0, 1, 0, 2, 0);
    Make.points(yard, 2, 9, 9, -9, -9);
    order(yard, 1, 2, 0);
    due.same("sorted of heap 2", yard.sorted(2, 1), 3);

    told.says("- `heap`: 0 to 2");
    due.same("sorted of heap 0", yard.sorted(0, 0), 1);
    due.same("sorted of heap 2", yard.sorted(2, 0), 4);

    told.says("- `place`: 0 for the first one");
    due.same("the first one", yard.sorted(0, 0), 1);
    HullyardSurveys all = sixty();
    due.same("the last one of 60", all.sorted(0, 59), 59);
    all.drop(0);
    due.same("the first one after a drop", all.sorted(0, 0), 1);

    told.says("Throws `IllegalArgumentException` if heap is out of range");
    for (int heap : NO_HEAPS) {
      due.raises("sorted of heap " + heap, BAD, () -> yard.sorted(heap, 0));
      due.raises("sorted of heap " + heap + ", no place", BAD, () -> yard.sorted(heap, -1));
    }

    told.says("Throws `IndexOutOfBoundsException` if there is no such place");
    for (int place : new int[] {-1, 3, 60, LEAST, MOST}) {
      due.raises("sorted " + place, NONE, () -> yard.sorted(0, place));
    }
    due.raises("sorted 0 of none", NONE, () -> yard.sorted(1, 0));
    due.raises("sorted 59 of 59", NONE, () -> all.sorted(0, 59));
    due.raises("sorted 60 of 60", NONE, () -> sixty().sorted(0, 60));
    told.end();
  }

  private void places() {
    told.promise(7);
    told.says(
        "Counts the unlike places at which points of a heap are.", "Returns how many there are.");
    HullyardSurveys yard = Make.heap(0, 0, 1, 0, 0, 0, 0, 1, 1, 0, 0, 0);
    Make.points(yard, 1, 9, 9);
    due.same("places of six points", yard.places(0), 3);
    due.same("places of one", yard.places(1), 1);
    due.same("places of none", yard.places(2), 0);
    yard.drop(0);
    due.same("places after a drop of one of several", yard.places(0), 3);
    yard.drop(3);
    due.same("places after a drop of one alone", yard.places(0), 2);
    due.same("places of 60 unlike ones", sixty().places(0), 60);
    HullyardSurveys one = new HullyardSurveys();
    for (int i = 0; i < 60; i++) {
      one.point(1, 0, 0);
    }
    due.same("places of 60 at one", one.places(1), 1);

    told.says("- `heap`: 0 to 2");
    due.same("places of 0", one.places(0), 0);
    due.same("places of 2", one.places(2), 0);

    told.says("Throws `IllegalArgumentException` if heap is out of range");
    for (int heap : NO_HEAPS) {
      due.raises("places of " + heap, BAD, () -> yard.places(heap));
    }
    told.end();
  }

  private void turn() {
    told.promise(8);
    told.says("Returns the turn of three points.", "Returns -1, 0 or 1.");
    HullyardSurveys yard = Make.heap(-200, -200, 200, 199, 200, 200, 0, 0, -200, -200);
    due.same("turn to the left", yard.turn(0, 1, 2), 1);
    due.same("turn to the right", yard.turn(0, 2, 1), -1);
    due.same("turn on a line", yard.turn(0, 3, 2), 0);
    due.same("turn there and back", yard.turn(0, 2, 3), 0);
    due.same("turn at one place", yard.turn(0, 4, 1), 0);
    due.same("turn of one point", yard.turn(1, 1, 1), 0);
    Make.points(yard, 1, 0, 1);
    due.same("turn of points of unlike heaps", yard.turn(0, 2, 5), 1);
    HullyardSurveys great = Make.heap(-200, -200, 200, -200, 200, 200);
    due.same("the greatest turn", great.turn(0, 1, 2), 1);

    told.says("- `a`: number of a point");
    due.same("a is the last one", yard.turn(5, 0, 1), 1);
    due.raises("a is one too many", NONE, () -> yard.turn(6, 0, 1));
    told.says("- `b`: number of a point");
    due.same("b is the last one", yard.turn(0, 5, 1), -1);
    due.raises("b is one too many", NONE, () -> yard.turn(0, 6, 1));
    told.says("- `c`: number of a point");
    due.same("c is the last one", yard.turn(0, 1, 5), 1);
    due.raises("c is one too many", NONE, () -> yard.turn(0, 1, 6));

    told.says("Throws `IndexOutOfBoundsException` if there is no such point");
    for (int point : new int[] {-1, 6, 60, LEAST, MOST}) {
      due.raises("turn of " + point + ", 0, 0", NONE, () -> yard.turn(point, 0, 0));
      due.raises("turn of 0, " + point + ", 0", NONE, () -> yard.turn(0, point, 0));
      due.raises("turn of 0, 0, " + point, NONE, () -> yard.turn(0, 0, point));
    }
    yard.drop(3);
    due.raises("turn, a dropped", NONE, () -> yard.turn(3, 0, 1));
    due.raises("turn, b dropped", NONE, () -> yard.turn(0, 3, 1));
    due.raises("turn, c dropped", NONE, () -> yard.turn(0, 1, 3));
    told.end();
  }
}
