import java.util.NoSuchElementException;

/** Promises 44, 45 and 49. */
public final class ImagesTest {
  private static final Class<NoSuchElementException> EMPTY = NoSuchElementException.class;

  private final Due due = new Due();

  public static void main(String[] args) {
    ImagesTest test = new ImagesTest();
    test.image();
    test.imageOfPoints();
    test.imageInPlace();
    test.figureStays();
    test.restoreRefuses();
    test.errors();
    test.due.end();
  }

  private static HullyardSurveys full() {
    HullyardSurveys yard = Make.heap(0, 0, 4, 0, 4, 4);
    Make.points(yard, 2, 9, 9);
    Make.corners(yard, 0, 0, 0, 4, 0, 4, 4);
    Make.corners(yard, 3, 0, 0, 6, 0, 6, 6, 0, 6);
    yard.line(0, 0, 4, 4);
    yard.line(4, 0, 0, 4);
    return yard;
  }

  // Promises 44 and 45
  private void image() {
    HullyardSurveys yard = full();
    due.same("image", yard.image(), 4);
    String before = Due.look(yard);
    yard.point(1, 7, 7);
    yard.drop(0);
    yard.clear(3);
    yard.add(0, 0, 4);
    yard.add(1, 5, 5);
    yard.clearLines();
    yard.line(9, 9, 9, 9);
    due.same("restore", yard.restore(), 4);
    due.sameText("what it was", Due.look(yard), before);
    due.same("polygon 0 is as long as it was", yard.clear(0), 3);
    due.same("polygon 1 is as long as it was", yard.clear(1), 0);
    due.same("polygon 3 is as long as it was", yard.clear(3), 4);
    due.same("there are as many lines as there were", yard.clearLines(), 2);
    due.same("restore again", yard.restore(), 4);
    due.sameText("what it was, again", Due.look(yard), before);
    due.same("triangle of what was restored", yard.triangleAt(3, 0), 30001);
    due.same("crossing of what was restored", yard.crossingAt(0), 1);
  }

  private void imageOfPoints() {
    HullyardSurveys yard = Make.heap(0, 0, 1, 1, 2, 2);
    yard.drop(1);
    due.same("image counts dropped points", yard.image(), 3);
    yard.drop(2);
    due.same("a point after the image", yard.point(1, 5, 5), 3);
    due.same("restore", yard.restore(), 3);
    due.same("a dropped point is there again", yard.pointOf(2, 1), 2);
    due.raises("a point dropped before stays so", IndexOutOfBoundsException.class,
        () -> yard.pointOf(1, 0));
    due.raises("a later point is gone", IndexOutOfBoundsException.class, () -> yard.pointOf(3, 0));
    due.same("count of its heap", yard.count(1), 0);
    due.same("the next number", yard.point(2, 8, 8), 3);
    HullyardSurveys many = new HullyardSurveys();
    for (int i = 0; i < 59; i++) {
      many.point(0, i, 0);
    }
    due.same("image of 59", many.image(), 59);
    many.point(0, 0, 0);
    due.same("restore of 59", many.restore(), 59);
    due.same("the last one comes again", many.point(1, 0, 0), 59);
  }

  private void imageInPlace() {
    HullyardSurveys yard = new HullyardSurveys();
    due.same("image of a new yard", yard.image(), 0);
    Make.points(yard, 0, 1, 1);
    due.same("restore of a new yard", yard.restore(), 0);
    due.same("its count", yard.count(0), 0);
    Make.points(yard, 0, 3, 3, 4, 4);
    due.same("image in place of one", yard.image(), 2);
    yard.drop(0);
    yard.drop(1);
    due.same("restore of the new one", yard.restore(), 2);
    due.same("its count", yard.count(0), 2);
    yard.point(0, 5, 5);
    due.same("the image is not the yard", yard.restore(), 2);
  }

  private void figureStays() {
    HullyardSurveys yard = full();
    yard.hull(0);
    yard.image();
    yard.hullOf(3);
    yard.restore();
    due.sameText("the figure stays", Make.figure(yard), "0,0 6,0 6,6 0,6");
    yard.image();
    due.sameText("the figure stays", Make.figure(yard), "0,0 6,0 6,6 0,6");
  }

  private void restoreRefuses() {
    HullyardSurveys yard = full();
    yard.hull(0);
    due.refuses(yard, "restore without an image", EMPTY, yard::restore);
  }

  // Promise 49
  private void errors() {
    HullyardSurveys yard = full();
    Make.corners(yard, 1, 0, 0, 10, 0, 10, 5, 8, 5, 8, 2, 6, 2, 6, 5, 4, 5, 4, 2, 2, 2, 2, 5, 0, 5);
    Make.corners(yard, 2, -200, -200, 0, -199, 200, -200, 200, 200, 0, -198, -200, 200);
    yard.hull(2);
    String before = Due.look(yard);
    due.same("errors", yard.errors(), 0);
    due.sameText("what can be asked after errors", Due.look(yard), before);
    yard.clear(1);
    Make.corners(yard, 1, 0, 0, 2, 2, 0, 2, 2, 0);
    due.same("errors with what crosses", yard.errors(), 0);
  }
}
