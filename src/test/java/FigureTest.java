import java.util.NoSuchElementException;

/** Promises 9 to 21, 46 and 48. */
public final class FigureTest {
  private static final Class<IllegalArgumentException> BAD = IllegalArgumentException.class;
  private static final Class<IllegalStateException> STATE = IllegalStateException.class;
  private static final Class<IndexOutOfBoundsException> NONE = IndexOutOfBoundsException.class;
  private static final Class<NoSuchElementException> EMPTY = NoSuchElementException.class;

  private static final int[] WRONG = {-1, 3, Integer.MIN_VALUE, Integer.MAX_VALUE};

  private final Due due = new Due();

  public static void main(String[] args) {
    FigureTest test = new FigureTest();
    test.hull();
    test.hullRefuses();
    test.join();
    test.sum();
    test.sumOfDirections();
    test.twoHeapsRefuse();
    test.layers();
    test.layersOfLines();
    test.sixtyCorners();
    test.hullOf();
    test.corner();
    test.areaEdgeInner();
    test.lies();
    test.liesFarAway();
    test.width();
    test.checksum();
    test.fills();
    test.figureStays();
    test.due.end();
  }

  private void figure(HullyardSurveys yard, String call, int corners, int want, String told) {
    due.same(call, corners, want);
    due.sameText("the figure of " + call, Make.figure(yard), told);
  }

  // Promise 9
  private void hull() {
    HullyardSurveys yard = Make.heap(1, 1, 0, 2, 2, 2, 2, 0, 0, 0, 1, 0, 2, 1, 0, 0, 2, 2);
    figure(yard, "hull of a square", yard.hull(0), 4, "0,0 2,0 2,2 0,2");
    yard = Make.heap(0, 3, 0, 1, 0, 2, 0, 1);
    figure(yard, "hull of a stretch that stands", yard.hull(0), 2, "0,1 0,3");
    yard = Make.heap(4, -4, -4, 4, 0, 0);
    figure(yard, "hull of a stretch that falls", yard.hull(0), 2, "-4,4 4,-4");
    yard = Make.heap(-7, 9, -7, 9, -7, 9);
    figure(yard, "hull of one place", yard.hull(0), 1, "-7,9");
    yard = Make.heap(3, 0, 0, 1, 0, 5, 3, 6);
    figure(yard, "hull with a left side", yard.hull(0), 4, "0,1 3,0 3,6 0,5");
    yard = Make.heap(0, 0, 3, 0);
    Make.points(yard, 1, 0, 9);
    figure(yard, "hull leaves other heaps", yard.hull(0), 2, "0,0 3,0");
    Make.points(yard, 0, 2, 2);
    figure(yard, "hull of a triangle", yard.hull(0), 3, "0,0 3,0 2,2");
    yard.drop(1);
    figure(yard, "hull after a drop", yard.hull(0), 2, "0,0 2,2");
  }

  private void hullRefuses() {
    HullyardSurveys yard = Make.heap(1, 1, 2, 2);
    yard.hull(0);
    for (int heap : WRONG) {
      due.refuses(yard, "hull of " + heap, BAD, () -> yard.hull(heap));
    }
    due.refuses(yard, "hull of an empty heap", EMPTY, () -> yard.hull(1));
    yard.drop(0);
    yard.drop(1);
    due.refuses(yard, "hull of a heap that was dropped", EMPTY, () -> yard.hull(0));
    due.sameText("the figure after refused hulls", Make.figure(yard), "1,1 2,2");
  }

  // Promise 10
  private void join() {
    HullyardSurveys yard = Make.heap(0, 0, 2, 0);
    Make.points(yard, 1, 1, 5, 1, 1);
    Make.points(yard, 2, 1, -5);
    figure(yard, "join of 0 and 1", yard.join(0, 1), 3, "0,0 2,0 1,5");
    figure(yard, "join of 1 and 0", yard.join(1, 0), 3, "0,0 2,0 1,5");
    figure(yard, "join of 1 and 2", yard.join(1, 2), 2, "1,-5 1,5");
    figure(yard, "join of one with itself", yard.join(0, 0), 2, "0,0 2,0");
    figure(yard, "join of a place with itself", yard.join(2, 2), 1, "1,-5");
  }

  // Promise 11
  private void sum() {
    HullyardSurveys yard = Make.heap(0, 0, 1, 0, 0, 1);
    Make.points(yard, 1, 5, 5);
    Make.points(yard, 2, 0, 0, 3, 0);
    figure(yard, "sum of a triangle with itself", yard.sum(0, 0), 3, "0,0 2,0 0,2");
    figure(yard, "sum of a triangle and a place", yard.sum(0, 1), 3, "5,5 6,5 5,6");
    figure(yard, "sum of a place and a triangle", yard.sum(1, 0), 3, "5,5 6,5 5,6");
    figure(yard, "sum of a triangle and a stretch", yard.sum(0, 2), 4, "0,0 4,0 3,1 0,1");
    figure(yard, "sum of a stretch with itself", yard.sum(2, 2), 2, "0,0 6,0");
    figure(yard, "sum of a place and a stretch", yard.sum(1, 2), 2, "5,5 8,5");
    figure(yard, "sum of a place with itself", yard.sum(1, 1), 1, "10,10");
    yard = Make.heap(-200, -200, 200, 200);
    Make.points(yard, 1, -200, 200, 200, -200);
    figure(yard, "the sum of two diagonals", yard.sum(0, 1), 4, "-400,0 0,-400 400,0 0,400");
    due.same("the greatest area", Make.heap(-200, -200, 200, -200, 200, 200, -200, 200).sum(0, 0), 4);
  }

  private void sumOfDirections() {
    HullyardSurveys yard = Make.heap(0, 0, 0, 4);
    Make.points(yard, 1, 0, 0, 0, 3, 2, 0);
    figure(yard, "sum of what stands", yard.sum(0, 1), 4, "0,0 2,0 2,4 0,7");
    yard = Make.heap(0, 0, 2, 1);
    Make.points(yard, 1, 0, 0, 4, 2);
    figure(yard, "sum of stretches on a line", yard.sum(0, 1), 2, "0,0 6,3");
    yard = Make.heap(0, 0, 2, 1, 1, 2);
    Make.points(yard, 1, 0, 0, -2, -1, -1, -2);
    figure(
        yard, "sum of a triangle and its image", yard.sum(0, 1), 6,
        "-2,-1 -1,-2 1,-1 2,1 1,2 -1,1");
  }

  // Promises 10, 11 and 43: what they refuse
  private void twoHeapsRefuse() {
    HullyardSurveys yard = Make.heap(1, 1, 2, 2);
    yard.hull(0);
    for (int heap : WRONG) {
      due.raises("join of " + heap + ", 0", BAD, () -> yard.join(heap, 0));
      due.raises("join of 0, " + heap, BAD, () -> yard.join(0, heap));
      due.raises("join of an empty heap, " + heap, BAD, () -> yard.join(1, heap));
      due.raises("join of " + heap + ", an empty heap", BAD, () -> yard.join(heap, 1));
      due.raises("sum of " + heap + ", 0", BAD, () -> yard.sum(heap, 0));
      due.raises("sum of 0, " + heap, BAD, () -> yard.sum(0, heap));
      due.raises("sum of an empty heap, " + heap, BAD, () -> yard.sum(1, heap));
      due.raises("sum of " + heap + ", an empty heap", BAD, () -> yard.sum(heap, 1));
    }
    due.refuses(yard, "join of 0, 1", EMPTY, () -> yard.join(0, 1));
    due.refuses(yard, "join of 1, 0", EMPTY, () -> yard.join(1, 0));
    due.raises("join of 1, 1", EMPTY, () -> yard.join(1, 1));
    due.refuses(yard, "sum of 0, 1", EMPTY, () -> yard.sum(0, 1));
    due.refuses(yard, "sum of 1, 0", EMPTY, () -> yard.sum(1, 0));
    due.raises("sum of 1, 1", EMPTY, () -> yard.sum(1, 1));
    due.sameText("the figure after refused sums", Make.figure(yard), "1,1 2,2");
  }

  // Promises 12 and 13
  private void layers() {
    HullyardSurveys yard =
        Make.heap(0, 0, 6, 0, 6, 6, 0, 6, 3, 0, 2, 2, 4, 2, 3, 4, 3, 3, 3, 3, 6, 0);
    due.same("layers", yard.layers(0), 3);
    due.same("corners after layers", yard.corners(), 0);
    figure(yard, "layer 0", yard.layer(0, 0), 4, "0,0 6,0 6,6 0,6");
    figure(yard, "layer 1", yard.layer(0, 1), 3, "2,2 4,2 3,4");
    figure(yard, "layer 2", yard.layer(0, 2), 1, "3,3");
    due.same("layers of an empty heap", yard.layers(1), 0);
    for (int layer : new int[] {3, -1, Integer.MIN_VALUE, Integer.MAX_VALUE}) {
      due.refuses(yard, "layer " + layer, NONE, () -> yard.layer(0, layer));
    }
    due.raises("layer of an empty heap", NONE, () -> yard.layer(1, 0));
    for (int heap : WRONG) {
      due.raises("layers of " + heap, BAD, () -> yard.layers(heap));
      due.raises("layer of " + heap, BAD, () -> yard.layer(heap, 0));
      due.raises("layer of " + heap + ", no layer", BAD, () -> yard.layer(heap, -1));
    }
    due.sameText("the figure after refused layers", Make.figure(yard), "3,3");
    due.same("count after layers", yard.count(0), 11);
  }

  private void layersOfLines() {
    HullyardSurveys yard = Make.heap(0, 0, 2, 2, 4, 4, 1, 1);
    due.same("layers of a stretch", yard.layers(0), 1);
    figure(yard, "layer of a stretch", yard.layer(0, 0), 2, "0,0 4,4");
    yard = Make.heap(5, 5, 5, 5);
    due.same("layers of a place", yard.layers(0), 1);
    yard = Make.heap(0, 0, 9, 0, 9, 9, 0, 9, 2, 3, 4, 3, 7, 3);
    due.same("layers with a stretch", yard.layers(0), 2);
    figure(yard, "layer that is a stretch", yard.layer(0, 1), 2, "2,3 7,3");
    HullyardSurveys deep = new HullyardSurveys();
    for (int i = 1; i <= 15; i++) {
      Make.points(deep, 0, -i, -i, i, -i, i, i, -i, i);
    }
    due.same("layers of 60 points", deep.layers(0), 15);
    figure(deep, "the last one of them", deep.layer(0, 14), 4, "-1,-1 1,-1 1,1 -1,1");
  }

  /** All 60 points are corners of their hull: the figure has as many as it can have. */
  private void sixtyCorners() {
    HullyardSurveys yard = new HullyardSurveys();
    int[] sides = Make.roundTrip();
    int x = -30;
    int y = -60;
    for (int i = 0; i < 60; i++) {
      yard.point(1, x, y);
      x += sides[2 * i];
      y += sides[2 * i + 1];
    }
    due.same("the round trip ends where it began", x == -30 && y == -60, true);
    due.same("hull of 60 corners", yard.hull(1), 60);
    int area = yard.area();
    int edge = yard.edge();
    String corners = Make.figure(yard);
    due.same("join of 60 corners", yard.join(1, 1), 60);
    due.sameText("its figure", Make.figure(yard), corners);
    due.same("layers of 60 corners", yard.layers(1), 1);
    due.same("layer of 60 corners", yard.layer(1, 0), 60);
    due.same("apart of 60 corners", yard.apart(1, 1), false);
    due.same("errors of 60 corners", yard.errors(), 0);
    due.same("sum of 60 corners", yard.sum(1, 1), 60);
    due.same("area of their sum", yard.area(), 4 * area);
    due.same("edge of their sum", yard.edge(), 2 * edge);
    due.same("the farthest pair of 60 corners is there", yard.distance(1, true) > 0, true);
  }

  // Promise 14
  private void hullOf() {
    HullyardSurveys yard = Make.polygon(0, 0, 4, 0, 1, 1, 0, 4, 0, 2);
    figure(yard, "hullOf a polygon", yard.hullOf(0), 3, "0,0 4,0 0,4");
    Make.corners(yard, 3, 5, 5, 1, 1);
    figure(yard, "hullOf two corners", yard.hullOf(3), 2, "1,1 5,5");
    Make.corners(yard, 1, 0, 0, 2, 2, 0, 2, 2, 0);
    figure(yard, "hullOf what is not simple", yard.hullOf(1), 4, "0,0 2,0 2,2 0,2");
    due.refuses(yard, "hullOf no corners", EMPTY, () -> yard.hullOf(2));
    for (int polygon : new int[] {-1, 4, Integer.MIN_VALUE, Integer.MAX_VALUE}) {
      due.refuses(yard, "hullOf " + polygon, BAD, () -> yard.hullOf(polygon));
    }
    yard.clear(3);
    due.refuses(yard, "hullOf a cleared polygon", EMPTY, () -> yard.hullOf(3));
  }

  // Promises 15 and 16
  private void corner() {
    HullyardSurveys yard = Make.heap(-3, 7, 5, -9, 6, 6);
    due.raises("corner of nothing", NONE, () -> yard.corner(0, false));
    due.same("corners of nothing", yard.corners(), 0);
    yard.hull(0);
    due.same("corners of a triangle", yard.corners(), 3);
    due.same("x of corner 0", yard.corner(0, false), -3);
    due.same("y of corner 0", yard.corner(0, true), 7);
    due.same("x of corner 1", yard.corner(1, false), 5);
    due.same("y of corner 1", yard.corner(1, true), -9);
    due.same("x of corner 2", yard.corner(2, false), 6);
    due.same("y of corner 2", yard.corner(2, true), 6);
    for (int corner : new int[] {-1, 3, 200, Integer.MIN_VALUE, Integer.MAX_VALUE}) {
      due.raises("x of corner " + corner, NONE, () -> yard.corner(corner, false));
      due.raises("y of corner " + corner, NONE, () -> yard.corner(corner, true));
    }
    Make.points(yard, 1, 1, 1);
    yard.hull(1);
    due.same("corners of a place", yard.corners(), 1);
    due.raises("corner of an older figure", NONE, () -> yard.corner(1, false));
  }

  // Promises 17, 18 and 19
  private void areaEdgeInner() {
    HullyardSurveys yard = Make.heap(0, 0, 6, 0, 0, 4);
    yard.hull(0);
    due.same("area of a triangle", yard.area(), 24);
    due.same("edge of a triangle", yard.edge(), 12);
    due.same("inner of a triangle", yard.inner(), 7);
    yard = Make.heap(0, 0, 6, 4);
    yard.hull(0);
    due.same("area of a stretch", yard.area(), 0);
    due.same("edge of a stretch", yard.edge(), 3);
    due.same("inner of a stretch", yard.inner(), 0);
    yard = Make.heap(0, 0, 0, 4);
    yard.hull(0);
    due.same("edge of a stretch that stands", yard.edge(), 5);
    yard = Make.heap(9, 9);
    yard.hull(0);
    due.same("area of a place", yard.area(), 0);
    due.same("edge of a place", yard.edge(), 1);
    due.same("inner of a place", yard.inner(), 0);
    yard = Make.heap(-200, -200, 200, -200, 200, 200, -200, 200);
    yard.sum(0, 0);
    due.same("the greatest area", yard.area(), 1280000);
    due.same("the greatest edge", yard.edge(), 3200);
    due.same("the greatest inner", yard.inner(), 799 * 799);
    yard = Make.heap(0, 0, 1, 0, 0, 1);
    yard.hull(0);
    due.same("the least area", yard.area(), 1);
    due.same("its inner", yard.inner(), 0);
  }

  // Promise 20
  private void lies() {
    HullyardSurveys yard = Make.heap(0, 0, 4, 0, 4, 3, 0, 3);
    yard.hull(0);
    due.same("lies inside", yard.lies(1, 1), 1);
    due.same("lies at a corner", yard.lies(4, 3), 0);
    due.same("lies on a side", yard.lies(2, 0), 0);
    due.same("lies on the left side", yard.lies(0, 2), 0);
    due.same("lies on the line of a side", yard.lies(5, 0), -1);
    due.same("lies under", yard.lies(2, -1), -1);
    due.same("lies over", yard.lies(2, 4), -1);
    yard = Make.heap(0, 0, 4, 2);
    yard.hull(0);
    due.same("lies on a stretch", yard.lies(2, 1), 0);
    due.same("lies at its end", yard.lies(4, 2), 0);
    due.same("lies behind its end", yard.lies(6, 3), -1);
    due.same("lies beside it", yard.lies(2, 2), -1);
    yard = Make.heap(3, -3);
    yard.hull(0);
    due.same("lies at the place", yard.lies(3, -3), 0);
    due.same("lies beside the place", yard.lies(3, -2), -1);
    due.same("lies left of the place", yard.lies(2, -3), -1);
  }

  private void liesFarAway() {
    int[] far = {Integer.MIN_VALUE, Integer.MAX_VALUE, Integer.MIN_VALUE + 1, 1 << 30, -(1 << 30)};
    HullyardSurveys yard = Make.heap(-200, -199, 199, -200, 200, 198, -197, 200);
    yard.sum(0, 0);
    HullyardSurveys stretch = Make.heap(-200, -200, 200, 200);
    stretch.hull(0);
    for (int x : far) {
      for (int y : far) {
        due.same("lies far away", yard.lies(x, y), -1);
        due.same("lies far away of a stretch", stretch.lies(x, y), -1);
      }
      due.same("lies far along x", yard.lies(x, 0), -1);
      due.same("lies far along y", yard.lies(0, x), -1);
    }
    due.same("lies far inside", yard.lies(-390, -390), 1);
    due.same("lies at a far corner", yard.lies(-400, -398), 0);
  }

  private void width(HullyardSurveys yard, String what, long over, long under) {
    due.same("width over of " + what, yard.width(false), over);
    due.same("width under of " + what, yard.width(true), under);
  }

  // Promise 21
  private void width() {
    HullyardSurveys yard = Make.heap(0, 0, 4, 0, 4, 3, 0, 3);
    due.raises("width of nothing", STATE, () -> yard.width(false));
    due.raises("width of nothing", STATE, () -> yard.width(true));
    yard.hull(0);
    width(yard, "a box", 9, 1);
    HullyardSurveys corner = Make.heap(0, 0, 1, 0, 0, 1);
    corner.hull(0);
    width(corner, "a half square", 1, 2);
    HullyardSurveys slant = Make.heap(0, 0, 3, 1, 1, 3);
    slant.hull(0);
    width(slant, "a slant triangle", 32, 5);
    HullyardSurveys thin = Make.heap(-200, -200, 200, 199, 199, 198);
    thin.hull(0);
    width(thin, "a thin triangle", 1, 400 * 400 + 399 * 399);
    HullyardSurveys great = Make.heap(-200, -200, 200, -200, 200, 200, -200, 200);
    great.sum(0, 0);
    width(great, "the greatest square", 640000, 1);
    HullyardSurveys deep = Make.heap(-200, 0, 0, -200, 200, 0, 0, 200);
    deep.sum(0, 0);
    width(deep, "a square on its corner", 320000, 1);
    HullyardSurveys few = Make.heap(0, 0, 5, 5);
    few.hull(0);
    due.raises("width of a stretch", STATE, () -> few.width(false));
    Make.points(few, 1, 1, 1);
    few.hull(1);
    due.raises("width of a place", STATE, () -> few.width(true));
  }

  // Promise 46
  private void checksum() {
    HullyardSurveys yard = Make.heap(1, 1);
    due.same("checksum of nothing", yard.checksum(), 17);
    yard.hull(0);
    due.same("checksum of a place", yard.checksum(), 16369);
    yard = Make.heap(-5, 7, 3, -2, 6, 6, 1, 9);
    yard.hull(0);
    int want = 17;
    for (int number : new int[] {-5, 7, 3, -2, 6, 6, 1, 9}) {
      want = 31 * want + number;
    }
    due.sameText("the figure of a checksum", Make.figure(yard), "-5,7 3,-2 6,6 1,9");
    due.same("checksum that wraps", yard.checksum(), want);
  }

  // Promise 48
  private void fills() {
    HullyardSurveys yard = Make.heap(0, 0, 3, 0, 0, 4);
    yard.hull(0);
    due.sameReal("fills of a half box", yard.fills(), 0.5f);
    yard = Make.heap(0, 0, 3, 1, 1, 3);
    yard.hull(0);
    due.sameReal("fills of a triangle", yard.fills(), 8f / 18f);
    yard = Make.heap(-200, -200, 200, -199, -199, 200);
    yard.sum(0, 0);
    due.sameReal("fills of a great triangle", yard.fills(), (float) yard.area() / (float) 1280000);
    yard = Make.heap(0, 0, 5, 3);
    yard.hull(0);
    due.sameReal("fills of a slant stretch", yard.fills(), 0.0f);
    yard = Make.heap(1, 1, 1, 5);
    yard.hull(0);
    due.sameReal("fills of a stretch that stands", yard.fills(), 0.0f);
    yard = Make.heap(1, 1, 5, 1);
    yard.hull(0);
    due.sameReal("fills of a stretch that lies", yard.fills(), 0.0f);
    yard = Make.heap(5, 5);
    yard.hull(0);
    due.sameReal("fills of a place", yard.fills(), 0.0f);
    yard = Make.heap(3, 5, 5, 5, 5, 9, 3, 9);
    yard.hull(0);
    due.sameReal("fills of a box that is away from 0", yard.fills(), 1.0f);
    yard = Make.heap(-3, -5, -5, -5, -5, -9, -3, -9);
    yard.hull(0);
    due.sameReal("fills of a box that is below 0", yard.fills(), 1.0f);
  }

  /** The figure is what it was made, whatever comes to the heap, and whatever else is asked. */
  private void figureStays() {
    HullyardSurveys yard = Make.heap(0, 0, 4, 0, 4, 4, 0, 4, 2, 2);
    Make.points(yard, 1, 50, 50);
    Make.corners(yard, 0, 0, 0, 9, 0, 0, 9);
    yard.hull(0);
    String square = "0,0 4,0 4,4 0,4";
    yard.point(0, 100, 100);
    yard.drop(0);
    yard.layers(0);
    yard.apart(0, 1);
    yard.errors();
    yard.sorted(0, 1);
    yard.places(0);
    yard.fence(0, 2);
    yard.box(0, 1);
    yard.pair(0, true);
    yard.triangles(0);
    yard.holds(0, 0);
    yard.meanFar(0);
    yard.image();
    yard.restore();
    yard.clear(0);
    due.sameText("the figure stays", Make.figure(yard), square);
    due.same("hull after the changes", yard.hull(0), 3);
    due.sameText("the new figure", Make.figure(yard), "0,4 4,0 100,100");
  }
}
