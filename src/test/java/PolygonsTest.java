/** Promises 22 to 33. */
public final class PolygonsTest {
  private static final Class<IllegalArgumentException> BAD = IllegalArgumentException.class;
  private static final Class<IllegalStateException> STATE = IllegalStateException.class;
  private static final Class<IndexOutOfBoundsException> NONE = IndexOutOfBoundsException.class;

  private static final int[] WRONG = {-1, 4, Integer.MIN_VALUE, Integer.MAX_VALUE};
  private static final int[] NO_HEAP = {-1, 3, Integer.MIN_VALUE, Integer.MAX_VALUE};

  /** A square with a notch from above: corner 3 is at the bottom of the notch. */
  private static final int[] NOTCHED = {0, 0, 4, 0, 4, 4, 2, 1, 0, 4};
  /** A comb with three teeth up. */
  private static final int[] COMB = {
    0, 0, 10, 0, 10, 5, 8, 5, 8, 2, 6, 2, 6, 5, 4, 5, 4, 2, 2, 2, 2, 5, 0, 5,
  };
  /** Four corners of which two edges cross. */
  private static final int[] CROSSED = {0, 0, 2, 2, 0, 2, 2, 0};

  private final Due due = new Due();

  public static void main(String[] args) {
    PolygonsTest test = new PolygonsTest();
    test.add();
    test.addRefuses();
    test.clear();
    test.isSimple();
    test.isSimpleOfTouches();
    test.polygonArea();
    test.polygonEdgeAndInner();
    test.polygonLies();
    test.holds();
    test.triangles();
    test.trianglesWithFlatCorners();
    test.triangleAtRefuses();
    test.sees();
    test.seesAlongEdges();
    test.seesRefuses();
    test.view();
    test.polygonsRefuse();
    test.due.end();
  }

  // Promise 22
  private void add() {
    HullyardSurveys yard = new HullyardSurveys();
    due.same("the first corner", yard.add(3, -200, 200), 1);
    due.same("the next corner", yard.add(3, 200, -200), 2);
    due.same("a corner at the same place", yard.add(3, 200, -200), 3);
    due.same("a corner of another polygon", yard.add(0, 0, 0), 1);
    for (int corner = 4; corner <= 16; corner++) {
      due.same("corner", yard.add(3, corner, 0), corner);
    }
    due.refuses(yard, "the 17th corner", STATE, () -> yard.add(3, 0, 0));
    due.raises("the 17th corner, x out of range", BAD, () -> yard.add(3, 201, 0));
    due.raises("the 17th corner, y out of range", BAD, () -> yard.add(3, 0, -201));
    due.same("corners after a refused one", yard.clear(3), 16);
    due.same("a corner behind clear", yard.add(3, 0, 0), 1);
    Make.corners(yard, 1, 0, 0, 4, 0, 4, 4);
    yard.add(1, 0, 4);
    due.same("the last one is the last", yard.polygonArea(1), 32);
  }

  private void addRefuses() {
    HullyardSurveys yard = Make.polygon(0, 0, 4, 0, 4, 4);
    for (int polygon : WRONG) {
      due.refuses(yard, "add to " + polygon, BAD, () -> yard.add(polygon, 0, 0));
    }
    for (int far : new int[] {-201, 201, Integer.MIN_VALUE, Integer.MAX_VALUE}) {
      due.raises("add at x " + far, BAD, () -> yard.add(0, far, 0));
      due.raises("add at y " + far, BAD, () -> yard.add(0, 0, far));
    }
    due.same("corners after refused ones", yard.clear(0), 3);
  }

  // Promise 23
  private void clear() {
    HullyardSurveys yard = Make.polygon(0, 0, 4, 0, 4, 4);
    Make.corners(yard, 1, 0, 0);
    due.same("clear", yard.clear(0), 3);
    due.same("clear again", yard.clear(0), 0);
    due.same("isSimple behind clear", yard.isSimple(0), false);
    due.same("polygonArea behind clear", yard.polygonArea(0), 0);
    due.same("clear of another one", yard.clear(1), 1);
    due.same("clear of the last one", yard.clear(3), 0);
    for (int polygon : WRONG) {
      due.refuses(yard, "clear " + polygon, BAD, () -> yard.clear(polygon));
    }
  }

  private void simple(String what, boolean want, int... numbers) {
    due.same("isSimple of " + what, Make.polygon(numbers).isSimple(0), want);
  }

  // Promise 24
  private void isSimple() {
    simple("nothing", false);
    simple("one corner", false, 0, 0);
    simple("two corners", false, 0, 0, 4, 0);
    simple("a triangle", true, 0, 0, 4, 0, 0, 4);
    simple("a triangle to the right", true, 0, 0, 0, 4, 4, 0);
    simple("three corners on a line", false, 0, 0, 2, 0, 4, 0);
    simple("three corners there and back", false, 0, 0, 4, 0, 2, 0);
    simple("three corners at two places", false, 0, 0, 4, 0, 0, 0);
    simple("three corners, two of them one behind the other", false, 0, 0, 0, 0, 4, 4);
    simple("a square", true, 0, 0, 4, 0, 4, 4, 0, 4);
    simple("what crosses", false, CROSSED);
    simple("what is notched", true, NOTCHED);
    simple("a comb", true, COMB);
    simple("a corner that is flat", true, 0, 0, 2, 0, 4, 0, 4, 4, 0, 4);
    simple("a comb with 16 corners", true,
        0, 0, 14, 0, 14, 5, 12, 5, 12, 2, 10, 2, 10, 5, 8, 5, 8, 2, 6, 2, 6, 5, 4, 5, 4, 2, 2, 2,
        2, 5, 0, 5);
    HullyardSurveys yard = Make.polygon(0, 0, 4, 0, 4, 4);
    for (int polygon : WRONG) {
      due.raises("isSimple of " + polygon, BAD, () -> yard.isSimple(polygon));
    }
  }

  private void isSimpleOfTouches() {
    simple("a corner on an edge", false, 0, 0, 4, 0, 4, 4, 2, 0, 0, 4);
    simple("a corner at a corner", false, 0, 0, 4, 0, 2, 2, 4, 4, 0, 4, 2, 2);
    simple("an edge along an edge", false, 0, 0, 6, 0, 6, 4, 4, 4, 4, 0, 2, 0, 2, 4, 0, 4);
    simple("an edge that folds back", false, 0, 0, 4, 0, 2, 0, 2, 4);
    simple("an edge that folds back at the last corner", false, 2, 0, 2, 4, 0, 0, 4, 0);
    simple("an edge that folds back farther", false, 2, 0, 4, 0, 0, 0, 2, 4);
    simple("four corners on a line", false, 0, 0, 1, 1, 3, 3, 2, 2);
    simple("a corner that comes again across", false, 2, 2, 0, 0, 2, 2, 4, 0);
    simple("a corner that comes again between two triangles", false, 2, 2, 0, 0, 4, 0, 2, 2, 4, 4, 0, 4);
    simple("a first corner that comes again", false, 0, 0, 4, 0, 4, 4, 0, 0);
    simple("edges that all but touch", true, 0, 0, 200, 199, 200, 200, 1, 1);
    simple("a far crossing", false, -200, -200, 200, 200, 199, 200, 200, 199);
  }

  // Promise 25
  private void polygonArea() {
    due.same("area to the left", Make.polygon(0, 0, 4, 0, 0, 3).polygonArea(0), 12);
    due.same("area to the right", Make.polygon(0, 0, 0, 3, 4, 0).polygonArea(0), -12);
    due.same("area of what crosses", Make.polygon(CROSSED).polygonArea(0), 0);
    due.same("area of what is notched", Make.polygon(NOTCHED).polygonArea(0), 20);
    due.same("area of a comb", Make.polygon(COMB).polygonArea(0), 76);
    due.same("area without corners", new HullyardSurveys().polygonArea(0), 0);
    due.same("area of one corner", Make.polygon(3, 5).polygonArea(0), 0);
    due.same("area of two corners", Make.polygon(3, 5, 7, 1).polygonArea(0), 0);
    due.same("area of a place away from 0",
        Make.polygon(100, 100, 101, 100, 100, 101).polygonArea(0), 1);
    HullyardSurveys twice =
        Make.polygon(-200, -200, 200, -200, 200, 200, -200, 200, -200, -200, 200, -200, 200, 200,
            -200, 200);
    due.same("area that goes round twice", twice.polygonArea(0), 640000);
    HullyardSurveys yard = Make.polygon(0, 0, 4, 0, 4, 4);
    due.same("area of another polygon", yard.polygonArea(1), 0);
    for (int polygon : WRONG) {
      due.raises("polygonArea of " + polygon, BAD, () -> yard.polygonArea(polygon));
    }
  }

  private void edgeInner(String what, int edge, int inner, int... numbers) {
    HullyardSurveys yard = Make.polygon(numbers);
    due.same("polygonEdge of " + what, yard.polygonEdge(0), edge);
    due.same("polygonInner of " + what, yard.polygonInner(0), inner);
  }

  // Promises 26 and 27
  private void polygonEdgeAndInner() {
    edgeInner("a square", 16, 9, 0, 0, 4, 0, 4, 4, 0, 4);
    edgeInner("a square to the right", 16, 9, 0, 0, 0, 4, 4, 4, 4, 0);
    edgeInner("what is notched", 14, 4, NOTCHED);
    edgeInner("a comb", 42, 18, COMB);
    edgeInner("a half square", 3, 0, 0, 0, 1, 0, 0, 1);
    edgeInner("a slant triangle", 3, 1, 0, 0, 2, 1, 1, 2);
    edgeInner("flat corners", 16, 9, 0, 0, 1, 0, 4, 0, 4, 3, 4, 4, 0, 4);
    edgeInner("the greatest", 1600, 399 * 399, -200, -200, 200, -200, 200, 200, -200, 200);
  }

  // Promise 28
  private void polygonLies() {
    HullyardSurveys yard = Make.polygon(COMB);
    due.same("lies in a tooth", yard.polygonLies(0, 1, 4), 1);
    due.same("lies between two teeth", yard.polygonLies(0, 3, 4), -1);
    due.same("lies on the bottom between them", yard.polygonLies(0, 3, 2), 0);
    due.same("lies in the last tooth", yard.polygonLies(0, 9, 4), 1);
    due.same("lies at the height of the tops", yard.polygonLies(0, 3, 5), -1);
    due.same("lies on a top", yard.polygonLies(0, 5, 5), 0);
    due.same("lies at a corner", yard.polygonLies(0, 8, 2), 0);
    due.same("lies inside, at the height of corners", yard.polygonLies(0, 1, 2), 1);
    due.same("lies left, at the height of corners", yard.polygonLies(0, -1, 2), -1);
    due.same("lies right, at the height of corners", yard.polygonLies(0, 11, 2), -1);
    due.same("lies on a side", yard.polygonLies(0, 10, 1), 0);
    HullyardSurveys notched = Make.polygon(NOTCHED);
    due.same("lies in the notch", notched.polygonLies(0, 2, 2), -1);
    due.same("lies at its bottom", notched.polygonLies(0, 2, 1), 0);
    due.same("lies left of it", notched.polygonLies(0, 1, 1), 1);
    HullyardSurveys right = Make.polygon(0, 0, 0, 4, 4, 0);
    due.same("lies inside, to the right", right.polygonLies(0, 1, 1), 1);
    due.same("lies on the edge, to the right", right.polygonLies(0, 2, 2), 0);
    due.same("lies outside, to the right", right.polygonLies(0, 3, 2), -1);
    int[] far = {Integer.MIN_VALUE, Integer.MAX_VALUE, 1 << 30, -(1 << 30), 0};
    HullyardSurveys great = Make.polygon(-200, -200, 200, -199, 199, 200, -198, 199);
    for (int x : far) {
      for (int y : far) {
        boolean isIn = x == 0 && y == 0;
        due.same("lies at " + x + ", " + y, great.polygonLies(0, x, y), isIn ? 1 : -1);
      }
    }
  }

  // Promise 29
  private void holds() {
    HullyardSurveys yard = Make.polygon(NOTCHED);
    Make.points(yard, 1, 2, 2, 2, 1, 1, 1, 1, 1, 0, 4, 5, 5, 3, 0);
    Make.points(yard, 0, 1, 1);
    due.same("holds of heap 1", yard.holds(0, 1), 5);
    due.same("holds of heap 0", yard.holds(0, 0), 1);
    due.same("holds of an empty heap", yard.holds(0, 2), 0);
    yard.drop(2);
    due.same("holds after a drop", yard.holds(0, 1), 4);
    for (int heap : NO_HEAP) {
      due.raises("holds of heap " + heap, BAD, () -> yard.holds(0, heap));
      due.raises("holds of heap " + heap + ", not simple", BAD, () -> yard.holds(1, heap));
    }
    for (int polygon : WRONG) {
      due.raises("holds of polygon " + polygon, BAD, () -> yard.holds(polygon, 0));
    }
    due.raises("holds of what is not simple", STATE, () -> yard.holds(1, 0));
  }

  private void parted(String what, int[] numbers, int... triangles) {
    HullyardSurveys yard = Make.polygon(numbers);
    due.same("triangles of " + what, yard.triangles(0), triangles.length);
    for (int i = 0; i < triangles.length; i++) {
      due.same("triangle " + i + " of " + what, yard.triangleAt(0, i), triangles[i]);
    }
    due.raises("triangle behind the last of " + what, NONE,
        () -> yard.triangleAt(0, triangles.length));
  }

  // Promises 30 and 31
  private void triangles() {
    parted("a triangle", new int[] {0, 0, 4, 0, 0, 4}, 102);
    parted("a triangle to the right", new int[] {0, 0, 0, 4, 4, 0}, 102);
    parted("a square", new int[] {0, 0, 4, 0, 4, 4, 0, 4}, 30001, 10203);
    parted("a square to the right", new int[] {0, 0, 0, 4, 4, 4, 4, 0}, 30001, 10203);
    parted("what is notched", NOTCHED, 10203, 103, 304);
    parted("what is notched, to the right",
        new int[] {0, 4, 2, 1, 4, 4, 4, 0, 0, 0}, 40001, 10203, 10304);
    parted("what starts in the notch",
        new int[] {2, 1, 0, 4, 0, 0, 4, 0, 4, 4}, 102, 203, 304);
    parted("a pentagon", new int[] {0, 0, 4, 0, 6, 3, 3, 6, -1, 3}, 40001, 40102, 20304);
    HullyardSurveys comb = Make.polygon(COMB);
    due.same("triangles of a comb", comb.triangles(0), 10);
  }

  private void trianglesWithFlatCorners() {
    // Corner 1 is flat and no ear; the triangle at corner 4 has it on its edge.
    parted("a flat corner", new int[] {0, 0, 2, 0, 4, 0, 4, 4, 0, 4}, 40001, 40102, 20304);
    // At corner 0 the triangle 3 0 1 has corner 2 on its edge from 1 to 3.
    parted("a corner on the cut", new int[] {0, 0, 4, 0, 2, 2, 0, 4}, 102, 203);
    // The triangle of corner 0 has no corner inside, but one at the edge from 4 to 1.
    parted("a notch that reaches the cut",
        new int[] {0, 0, 4, 0, 4, 4, 2, 2, 0, 4}, 10203, 103, 304);
  }

  private void triangleAtRefuses() {
    HullyardSurveys yard = Make.polygon(NOTCHED);
    Make.corners(yard, 1, CROSSED);
    for (int triangle : new int[] {-1, 3, 16, 99, Integer.MIN_VALUE, Integer.MAX_VALUE}) {
      due.raises("triangleAt " + triangle, NONE, () -> yard.triangleAt(0, triangle));
      due.raises("triangleAt of what crosses", STATE, () -> yard.triangleAt(1, triangle));
      for (int polygon : WRONG) {
        due.raises("triangleAt of " + polygon, BAD, () -> yard.triangleAt(polygon, triangle));
      }
    }
    due.raises("triangleAt of no corners", STATE, () -> yard.triangleAt(2, 0));
  }

  private void seen(HullyardSurveys yard, int corner, int other, boolean want) {
    due.same("sees " + corner + ", " + other, yard.sees(0, corner, other), want);
    due.same("sees " + other + ", " + corner, yard.sees(0, other, corner), want);
  }

  // Promise 32
  private void sees() {
    HullyardSurveys yard = Make.polygon(NOTCHED);
    for (int corner = 0; corner < 5; corner++) {
      seen(yard, corner, corner, true);
      seen(yard, corner, (corner + 1) % 5, true);
    }
    seen(yard, 0, 2, false);
    seen(yard, 0, 3, true);
    seen(yard, 1, 3, true);
    seen(yard, 1, 4, false);
    seen(yard, 2, 4, false);
    HullyardSurveys right = Make.polygon(0, 4, 2, 1, 4, 4, 4, 0, 0, 0);
    seen(right, 0, 2, false);
    seen(right, 0, 3, false);
    seen(right, 1, 3, true);
    seen(right, 1, 4, true);
  }

  private void seesAlongEdges() {
    HullyardSurveys comb = Make.polygon(COMB);
    // Along the bottoms between the teeth, with teeth above: no place is outside.
    seen(comb, 9, 4, true);
    seen(comb, 9, 5, true);
    seen(comb, 8, 5, true);
    // Along the tops, with gaps between them.
    seen(comb, 11, 2, false);
    seen(comb, 10, 7, false);
    seen(comb, 11, 0, true);
    // Past a corner that the stretch touches.
    HullyardSurveys touch = Make.polygon(0, 0, 4, 0, 4, 4, 2, 2, 0, 4);
    seen(touch, 0, 2, true);
    seen(touch, 1, 4, true);
    seen(touch, 2, 4, false);
    // Past a corner, and out there.
    HullyardSurveys past = Make.polygon(0, 0, 2, 2, 4, 0, 4, 8, 2, 6, 0, 8);
    seen(past, 0, 3, true);
    seen(past, 1, 4, true);
    seen(past, 0, 5, true);
    seen(past, 0, 2, false);
    HullyardSurveys flat = Make.polygon(0, 0, 2, 0, 4, 0, 4, 4, 0, 4);
    seen(flat, 0, 2, true);
    seen(flat, 1, 4, true);
    // In at one corner and out at the next one: the middle of the whole stretch is inside.
    HullyardSurveys twice = Make.polygon(0, 0, 2, -2, 4, 0, 8, 0, 10, -2, 12, 0, 12, -6, 0, -6);
    seen(twice, 0, 2, false);
    seen(twice, 0, 5, false);
    seen(twice, 2, 3, true);
    seen(twice, 1, 4, true);
    seen(twice, 1, 6, true);
  }

  private void seesRefuses() {
    HullyardSurveys yard = Make.polygon(NOTCHED);
    Make.corners(yard, 1, CROSSED);
    for (int corner : new int[] {-1, 5, 16, Integer.MIN_VALUE, Integer.MAX_VALUE}) {
      due.raises("sees of " + corner, NONE, () -> yard.sees(0, corner, 0));
      due.raises("sees other " + corner, NONE, () -> yard.sees(0, 0, corner));
      due.raises("view of " + corner, NONE, () -> yard.view(0, corner));
      for (int polygon : WRONG) {
        due.raises("sees in " + polygon, BAD, () -> yard.sees(polygon, corner, 0));
        due.raises("view in " + polygon, BAD, () -> yard.view(polygon, corner));
      }
    }
    due.raises("sees of what crosses", STATE, () -> yard.sees(1, 0, 3));
    due.raises("sees of what crosses, itself", STATE, () -> yard.sees(1, 2, 2));
    due.raises("sees of what crosses, no corner", NONE, () -> yard.sees(1, 4, 0));
    due.raises("sees of what crosses, no other", NONE, () -> yard.sees(1, 0, 4));
    due.raises("sees without corners", NONE, () -> yard.sees(2, 0, 0));
    due.raises("view of what crosses", STATE, () -> yard.view(1, 0));
    due.raises("view of what crosses, no corner", NONE, () -> yard.view(1, 4));
    due.raises("view without corners", NONE, () -> yard.view(2, 0));
  }

  // Promise 33
  private void view() {
    HullyardSurveys yard = Make.polygon(NOTCHED);
    int[] want = {3, 3, 2, 4, 2};
    for (int corner = 0; corner < want.length; corner++) {
      due.same("view of " + corner, yard.view(0, corner), want[corner]);
    }
    HullyardSurveys square = Make.polygon(0, 0, 4, 0, 4, 4, 0, 4);
    due.same("view in a square", square.view(0, 3), 3);
    due.same("view in a triangle", Make.polygon(0, 0, 4, 0, 0, 4).view(0, 1), 2);
  }

  // Promises 26, 27, 28 and 30: what they refuse
  private void polygonsRefuse() {
    HullyardSurveys yard = Make.polygon(CROSSED);
    Make.corners(yard, 1, 0, 0, 4, 4);
    for (int polygon : WRONG) {
      due.raises("polygonEdge of " + polygon, BAD, () -> yard.polygonEdge(polygon));
      due.raises("polygonInner of " + polygon, BAD, () -> yard.polygonInner(polygon));
      due.raises("polygonLies of " + polygon, BAD, () -> yard.polygonLies(polygon, 0, 0));
      due.raises("triangles of " + polygon, BAD, () -> yard.triangles(polygon));
    }
    for (int polygon = 0; polygon < 3; polygon++) {
      int asked = polygon;
      due.raises("polygonEdge, not simple", STATE, () -> yard.polygonEdge(asked));
      due.raises("polygonInner, not simple", STATE, () -> yard.polygonInner(asked));
      due.raises("polygonLies, not simple", STATE, () -> yard.polygonLies(asked, 9, 9));
      due.raises("triangles, not simple", STATE, () -> yard.triangles(asked));
    }
  }
}
