import java.util.NoSuchElementException;

/** Promises 1 to 8. */
public final class PointsTest {
  private static final Class<IllegalArgumentException> BAD = IllegalArgumentException.class;
  private static final Class<IllegalStateException> STATE = IllegalStateException.class;
  private static final Class<IndexOutOfBoundsException> NONE = IndexOutOfBoundsException.class;

  private static final int[] WRONG = {
    -1, 3, Integer.MIN_VALUE, Integer.MAX_VALUE,
  };

  private final Due due = new Due();

  public static void main(String[] args) {
    PointsTest test = new PointsTest();
    test.newYard();
    test.point();
    test.pointRefuses();
    test.drop();
    test.pointOf();
    test.count();
    test.sorted();
    test.places();
    test.turn();
    test.due.end();
  }

  // Promise 1
  private void newYard() {
    HullyardSurveys yard = new HullyardSurveys();
    for (int heap = 0; heap < 3; heap++) {
      due.same("count of a new yard", yard.count(heap), 0);
      due.same("places of a new yard", yard.places(heap), 0);
      due.same("layers of a new yard", yard.layers(heap), 0);
      due.sameReal("meanFar of a new yard", yard.meanFar(heap), 0.0);
    }
    for (int polygon = 0; polygon < 4; polygon++) {
      due.same("isSimple of a new yard", yard.isSimple(polygon), false);
      due.same("polygonArea of a new yard", yard.polygonArea(polygon), 0);
      due.same("clear of a new yard", yard.clear(polygon), 0);
    }
    due.same("clearLines of a new yard", yard.clearLines(), 0);
    due.same("crossings of a new yard", yard.crossings(), 0);
    due.same("corners of a new yard", yard.corners(), 0);
    due.same("area of a new yard", yard.area(), 0);
    due.same("edge of a new yard", yard.edge(), 0);
    due.same("inner of a new yard", yard.inner(), 0);
    due.same("lies of a new yard", yard.lies(0, 0), -1);
    due.same("checksum of a new yard", yard.checksum(), 17);
    due.sameReal("fills of a new yard", yard.fills(), 0.0f);
    due.same("errors of a new yard", yard.errors(), 0);
    due.raises("width of a new yard", STATE, () -> yard.width(false));
    due.raises("restore of a new yard", NoSuchElementException.class, yard::restore);
    due.raises("pointOf of a new yard", NONE, () -> yard.pointOf(0, 0));
    due.same("image of a new yard", yard.image(), 0);
    HullyardSurveys other = new HullyardSurveys();
    yard.point(0, 1, 1);
    due.same("count of another yard", other.count(0), 0);
  }

  // Promise 2
  private void point() {
    HullyardSurveys yard = new HullyardSurveys();
    due.same("the first point", yard.point(2, -200, 200), 0);
    due.same("the next point, of another heap", yard.point(0, 200, -200), 1);
    due.same("a point at the same place", yard.point(2, -200, 200), 2);
    due.same("its heap", yard.pointOf(2, 0), 2);
    due.same("its x", yard.pointOf(2, 1), -200);
    due.same("its y", yard.pointOf(2, 2), 200);
    yard.drop(2);
    due.same("a point after a drop", yard.point(1, 0, 0), 3);
    for (int number = 4; number < 60; number++) {
      due.same("point", yard.point(number % 3, number, 0), number);
    }
    due.refuses(yard, "the 61st point", STATE, () -> yard.point(0, 0, 0));
    yard.drop(0);
    due.refuses(yard, "the 61st point, one dropped", STATE, () -> yard.point(0, 0, 0));
  }

  private void pointRefuses() {
    HullyardSurveys yard = Make.heap(1, 2, 3, 4);
    for (int heap : WRONG) {
      due.raises("point of heap " + heap, BAD, () -> yard.point(heap, 0, 0));
    }
    for (int far : new int[] {-201, 201, Integer.MIN_VALUE, Integer.MAX_VALUE}) {
      due.refuses(yard, "point at x " + far, BAD, () -> yard.point(0, far, 0));
      due.refuses(yard, "point at y " + far, BAD, () -> yard.point(0, 0, far));
    }
    due.same("a point after refused ones", yard.point(0, 0, 0), 2);
    HullyardSurveys full = new HullyardSurveys();
    for (int i = 0; i < 60; i++) {
      full.point(0, 0, 0);
    }
    due.raises("point of a wrong heap, full", BAD, () -> full.point(3, 0, 0));
    due.raises("point at a wrong x, full", BAD, () -> full.point(0, 201, 0));
    due.raises("point at a wrong y, full", BAD, () -> full.point(0, 0, -201));
  }

  // Promise 3
  private void drop() {
    HullyardSurveys yard = Make.heap(0, 0, 1, 1, 2, 2);
    Make.points(yard, 1, 3, 3);
    due.same("drop of 3", yard.drop(1), 2);
    due.same("drop of 2", yard.drop(0), 1);
    due.same("drop of another heap", yard.drop(3), 0);
    due.same("drop of the last", yard.drop(2), 0);
    Make.points(yard, 0, 5, 5);
    for (int point : new int[] {0, 3, 5, -1, 60, Integer.MIN_VALUE, Integer.MAX_VALUE}) {
      due.refuses(yard, "drop " + point, NONE, () -> yard.drop(point));
    }
    due.same("drop after refused ones", yard.drop(4), 0);
  }

  // Promise 4
  private void pointOf() {
    HullyardSurveys yard = Make.heap(7, -8);
    Make.points(yard, 2, -9, 10);
    due.same("heap of 0", yard.pointOf(0, 0), 0);
    due.same("x of 0", yard.pointOf(0, 1), 7);
    due.same("y of 0", yard.pointOf(0, 2), -8);
    due.same("heap of 1", yard.pointOf(1, 0), 2);
    due.same("x of 1", yard.pointOf(1, 1), -9);
    due.same("y of 1", yard.pointOf(1, 2), 10);
    for (int what : WRONG) {
      due.raises("pointOf what " + what, BAD, () -> yard.pointOf(0, what));
      due.raises("pointOf no point, what " + what, NONE, () -> yard.pointOf(2, what));
    }
    for (int point : new int[] {-1, 2, 60, Integer.MIN_VALUE, Integer.MAX_VALUE}) {
      due.raises("pointOf " + point, NONE, () -> yard.pointOf(point, 1));
    }
    yard.drop(0);
    due.raises("pointOf a dropped point", NONE, () -> yard.pointOf(0, 0));
    due.same("pointOf of the one that is left", yard.pointOf(1, 2), 10);
  }

  // Promise 5
  private void count() {
    HullyardSurveys yard = Make.heap(0, 0, 0, 0, 1, 0);
    Make.points(yard, 1, 0, 0);
    due.same("count of 0", yard.count(0), 3);
    due.same("count of 1", yard.count(1), 1);
    due.same("count of 2", yard.count(2), 0);
    yard.drop(1);
    due.same("count after a drop", yard.count(0), 2);
    for (int heap : WRONG) {
      due.raises("count of " + heap, BAD, () -> yard.count(heap));
    }
  }

  // Promise 6
  private void sorted() {
    HullyardSurveys yard = Make.heap(5, 0, -200, 200, -200, -200, 5, 0, 5, -1, 4, 9);
    Make.points(yard, 1, 0, 0);
    int[] order = {2, 1, 5, 4, 0, 3};
    for (int place = 0; place < order.length; place++) {
      due.same("sorted " + place, yard.sorted(0, place), order[place]);
    }
    due.same("sorted of another heap", yard.sorted(1, 0), 6);
    yard.drop(0);
    due.same("sorted after a drop", yard.sorted(0, 4), 3);
    due.raises("sorted behind the last", NONE, () -> yard.sorted(0, 5));
    due.raises("sorted -1", NONE, () -> yard.sorted(0, -1));
    due.raises("sorted of the least", NONE, () -> yard.sorted(0, Integer.MIN_VALUE));
    due.raises("sorted of the greatest", NONE, () -> yard.sorted(0, Integer.MAX_VALUE));
    due.raises("sorted of an empty heap", NONE, () -> yard.sorted(2, 0));
    for (int heap : WRONG) {
      due.raises("sorted of heap " + heap, BAD, () -> yard.sorted(heap, 0));
      due.raises("sorted of heap " + heap + ", no place", BAD, () -> yard.sorted(heap, -1));
    }
  }

  // Promise 7
  private void places() {
    HullyardSurveys yard = Make.heap(0, 0, 1, 0, 0, 0, 0, 1, 1, 0, 0, 0);
    Make.points(yard, 1, 9, 9);
    due.same("places", yard.places(0), 3);
    due.same("places of one", yard.places(1), 1);
    due.same("places of none", yard.places(2), 0);
    yard.drop(0);
    due.same("places after a drop", yard.places(0), 3);
    yard.drop(3);
    due.same("places after a drop of one alone", yard.places(0), 2);
    for (int heap : WRONG) {
      due.raises("places of " + heap, BAD, () -> yard.places(heap));
    }
  }

  // Promise 8
  private void turn() {
    HullyardSurveys yard = Make.heap(-200, -200, 200, 199, 200, 200, 0, 0, -200, -200);
    due.same("turn to the left", yard.turn(0, 1, 2), 1);
    due.same("turn to the right", yard.turn(0, 2, 1), -1);
    due.same("turn on a line", yard.turn(0, 3, 2), 0);
    due.same("turn there and back", yard.turn(0, 2, 3), 0);
    due.same("turn at one place", yard.turn(0, 4, 1), 0);
    due.same("turn of one point", yard.turn(1, 1, 1), 0);
    Make.points(yard, 1, 0, 1);
    due.same("turn across heaps", yard.turn(0, 2, 5), 1);
    for (int point : new int[] {-1, 6, 60, Integer.MIN_VALUE, Integer.MAX_VALUE}) {
      due.raises("turn of " + point + ", 0, 0", NONE, () -> yard.turn(point, 0, 0));
      due.raises("turn of 0, " + point + ", 0", NONE, () -> yard.turn(0, point, 0));
      due.raises("turn of 0, 0, " + point, NONE, () -> yard.turn(0, 0, point));
    }
    yard.drop(3);
    due.raises("turn with a dropped point", NONE, () -> yard.turn(0, 3, 2));
  }
}
