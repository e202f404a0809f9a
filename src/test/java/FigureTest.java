import java.util.NoSuchElementException;

/** Section 2 of the terms, and promises 9 to 21, 46 and 48, sentence by sentence. */
public final class FigureTest {
  private static final Class<IllegalArgumentException> BAD = IllegalArgumentException.class;
  private static final Class<IllegalStateException> STATE = IllegalStateException.class;
  private static final Class<IndexOutOfBoundsException> NONE = IndexOutOfBoundsException.class;
  private static final Class<NoSuchElementException> EMPTY = NoSuchElementException.class;

  private static final int LEAST = Integer.MIN_VALUE;
  private static final int MOST = Integer.MAX_VALUE;
  private static final int[] NO_HEAPS = {-1, 3, LEAST, MOST};
  private static final int[] NO_POLYGONS = {-1, 4, LEAST, MOST};
  /** All that there can be: the four corners of the grid. */
  private static final int[] GREATEST = {-200, -200, 200, -200, 200, 200, -200, 200};

  private final Due due = new Due();
  private final Told told = new Told(due);

  private FigureTest() throws java.io.IOException {
  }

  public static void main(String[] args) throws java.io.IOException {
    FigureTest test = new FigureTest();
    test.whatAFigureIs();
    test.whatLayersAre();
    test.whatASumIs();
    test.hull();
    test.join();
    test.joinRefuses();
    test.sum();
    test.sumRefuses();
    test.layers();
    test.layer();
    test.hullOf();
    test.corners();
    test.corner();
    test.area();
    test.edge();
    test.inner();
    test.lies();
    test.liesFarAway();
    test.width();
    test.checksum();
    test.fills();
    test.sixtyCorners();
    test.figureStays();
    test.due.end();
  }

  private void figure(HullyardSurveys yard, String call, int corners, int want, String asTold) {
    due.same(call, corners, want);
    due.sameText("the figure of " + call, Make.figure(yard), asTold);
  }

  private void hulled(String what, String asTold, int... numbers) {
    HullyardSurveys yard = Make.heap(numbers);
    int want = asTold.split(" ").length;
    figure(yard, "hull of " + what, yard.hull(0), want, asTold);
  }

  /** A yard whose figure is the hull of these points. */
  private static HullyardSurveys hullOfHeap(int... numbers) {
    HullyardSurveys yard = Make.heap(numbers);
    yard.hull(0);
    return yard;
  }

  private void whatAFigureIs() {
    told.section(2, "\n3. Polygons");
    told.says("The figure is a convex polygon, a stretch, a place, or nothing (at first).");
    due.same("corners of nothing", new HullyardSurveys().corners(), 0);
    due.same("corners of a place", hullOfHeap(1, 1).corners(), 1);
    due.same("corners of a stretch", hullOfHeap(1, 1, 2, 2).corners(), 2);
    due.same("corners of a polygon", hullOfHeap(0, 0, 1, 0, 0, 1).corners(), 3);

    told.says(
        "It is told by its corners: of a convex polygon only those at which it turns, beginning"
            + " with the first one in order, going round to the left;");
    hulled("a square", "0,0 2,0 2,2 0,2", 1, 1, 0, 2, 2, 2, 2, 0, 0, 0, 1, 0, 2, 1, 0, 0, 2, 2);
    hulled("a left side", "0,1 3,0 3,6 0,5", 3, 0, 0, 1, 0, 5, 3, 6, 0, 3);
    hulled("what begins above", "-2,5 0,0 3,9", 0, 0, 3, 9, -2, 5);

    told.says("of a stretch its two ends, in order;");
    hulled("a stretch that stands", "0,1 0,3", 0, 3, 0, 1, 0, 2, 0, 1);
    hulled("a stretch that falls", "-4,4 4,-4", 4, -4, -4, 4, 0, 0);
    hulled("a stretch that rises", "-200,-200 200,200", 200, 200, 0, 0, -200, -200);

    told.says("of a place this one.");
    hulled("a place", "-7,9", -7, 9, -7, 9, -7, 9);
    hulled("a place at 0", "0,0", 0, 0);

    told.says(
        "The hull of some places is the figure that holds them all and is the least that does"
            + " so.");
    hulled("a hexagon with places on its sides and inside", "0,2 2,0 4,0 6,2 4,4 2,4",
        3, 2, 2, 0, 4, 0, 6, 2, 4, 4, 2, 4, 0, 2, 3, 0, 3, 4, 1, 1, 5, 3, 3, 3);
    hulled("what is thin", "-200,-200 200,199 199,199", -200, -200, 200, 199, 199, 199);
    hulled("all the grid", "-200,-200 200,-200 200,200 -200,200", GREATEST);

    told.says("The doubled area of a figure is twice its area; 0 of a stretch and a place.");
    due.same("area of half a square", hullOfHeap(0, 0, 1, 0, 0, 1).area(), 1);
    due.same("area of a square", hullOfHeap(0, 0, 1, 0, 0, 1, 1, 1).area(), 2);
    due.same("area of a stretch", hullOfHeap(3, 5, 7, 4).area(), 0);
    due.same("area of a place", hullOfHeap(3, 5).area(), 0);

    told.says("The edge of a stretch is all of it, that of a place itself.");
    HullyardSurveys stretch = hullOfHeap(0, 0, 6, 4);
    due.same("edge of a stretch", stretch.edge(), 3);
    due.same("lies between its ends", stretch.lies(3, 2), 0);
    due.same("inner of a stretch", stretch.inner(), 0);
    HullyardSurveys place = hullOfHeap(3, -3);
    due.same("edge of a place", place.edge(), 1);
    due.same("lies at a place", place.lies(3, -3), 0);
    due.same("inner of a place", place.inner(), 0);
  }

  private void whatLayersAre() {
    told.says("The layers of a heap: the layer 0 is the hull of its points;");
    HullyardSurveys yard = Make.heap(0, 0, 6, 0, 6, 6, 0, 6, 2, 2, 4, 2, 3, 4);
    figure(yard, "layer 0", yard.layer(0, 0), 4, "0,0 6,0 6,6 0,6");

    told.says(
        "the layer k + 1 is the hull of what is left when the points that lie on the edge of the"
            + " layer k, at corners or between them, or at the place, are taken away, until"
            + " nothing is left.");
    figure(yard, "layer 1", yard.layer(0, 1), 3, "2,2 4,2 3,4");
    due.same("layers of two triangles", yard.layers(0), 2);
    HullyardSurveys between = Make.heap(0, 0, 6, 0, 6, 6, 0, 6, 3, 0, 0, 3, 6, 3, 3, 6, 3, 3);
    due.same("layers, points between the corners", between.layers(0), 2);
    figure(between, "layer 1, a place", between.layer(0, 1), 1, "3,3");
    HullyardSurveys twice = Make.heap(0, 0, 0, 0, 4, 0, 4, 0, 0, 4, 0, 4, 1, 1, 1, 1);
    due.same("layers, two points at each place", twice.layers(0), 2);
    figure(twice, "layer 1, two points at a place", twice.layer(0, 1), 1, "1,1");
    due.same("layers of points on a stretch", Make.heap(0, 0, 2, 2, 4, 4, 1, 1).layers(0), 1);
    HullyardSurveys across = Make.heap(0, 0, 9, 0, 9, 9, 0, 9, 2, 3, 4, 3, 7, 3);
    due.same("layers, a stretch inside", across.layers(0), 2);
    figure(across, "layer 1, a stretch", across.layer(0, 1), 2, "2,3 7,3");
    due.same("layers of points at a place", Make.heap(5, 5, 5, 5, 5, 5).layers(0), 1);
  }

  private void whatASumIs() {
    told.says(
        "The sum of two figures is the figure of all sums of a place of the one and a place of the"
            + " other one, by x and by y.");
    HullyardSurveys yard = Make.heap(0, 0, 2, 1, 1, 2);
    Make.points(yard, 1, 0, 0, -2, -1, -1, -2);
    figure(
        yard, "sum of a triangle and its image", yard.sum(0, 1), 6,
        "-2,-1 -1,-2 1,-1 2,1 1,2 -1,1");
    yard = Make.heap(0, 0, 0, 4);
    Make.points(yard, 1, 0, 0, 0, 3, 2, 0);
    figure(yard, "sum of what stands", yard.sum(0, 1), 4, "0,0 2,0 2,4 0,7");
    yard = Make.heap(0, 0, 0, 1);
    Make.points(yard, 1, 0, 0, 0, 2);
    Make.points(yard, 2, 0, 0, 1, 0, 0, 5);
    figure(yard, "sum of stretches that stand", yard.sum(0, 1), 2, "0,0 0,3");
    figure(yard, "sum of what is steep and what stands", yard.sum(2, 0), 4, "0,0 1,0 1,1 0,6");
    yard = Make.heap(0, 0, 2, 1);
    Make.points(yard, 1, 0, 0, 4, 2);
    figure(yard, "sum of stretches on a line", yard.sum(0, 1), 2, "0,0 6,3");
    yard = Make.heap(-200, -200, 200, 200);
    Make.points(yard, 1, -200, 200, 200, -200);
    figure(yard, "sum of two diagonals", yard.sum(0, 1), 4, "-400,0 0,-400 400,0 0,400");
    yard = Make.heap(GREATEST);
    figure(yard, "the greatest sum", yard.sum(0, 0), 4, "-400,-400 400,-400 400,400 -400,400");
    told.end();
  }

  private void hull() {
    told.promise(9);
    told.says("Makes the figure the hull of a heap.", "Returns the number of corners of the figure.");
    HullyardSurveys yard = Make.heap(0, 0, 3, 0);
    Make.points(yard, 1, 0, 9);
    figure(yard, "hull, another heap left out", yard.hull(0), 2, "0,0 3,0");
    Make.points(yard, 0, 2, 2);
    due.same("corners ahead of a new hull", yard.corners(), 2);
    figure(yard, "hull of a triangle", yard.hull(0), 3, "0,0 3,0 2,2");
    yard.drop(1);
    figure(yard, "hull after a drop", yard.hull(0), 2, "0,0 2,2");
    figure(yard, "hull of a place", yard.hull(1), 1, "0,9");

    told.says("- `heap`: 0 to 2");
    Make.points(yard, 2, 8, 8);
    figure(yard, "hull of heap 2", yard.hull(2), 1, "8,8");
    figure(yard, "hull of heap 0", yard.hull(0), 2, "0,0 2,2");

    told.says("Throws `IllegalArgumentException` if heap is out of range");
    for (int heap : NO_HEAPS) {
      due.raises("hull of " + heap, BAD, () -> yard.hull(heap));
    }
    due.sameText("the figure after it", Make.figure(yard), "0,0 2,2");

    told.says("Throws `NoSuchElementException` if the heap is empty");
    HullyardSurveys few = Make.heap(1, 1, 2, 2);
    few.hull(0);
    due.raises("hull of an empty heap", EMPTY, () -> few.hull(1));
    few.drop(0);
    few.drop(1);
    due.raises("hull of a heap that was dropped", EMPTY, () -> few.hull(0));
    due.sameText("the figure after it", Make.figure(few), "1,1 2,2");
    told.end();
  }

  private void join() {
    told.promise(10);
    told.says(
        "Makes the figure the hull of two heaps together.",
        "Returns the number of corners of the figure.");
    HullyardSurveys yard = Make.heap(0, 0, 2, 0);
    Make.points(yard, 1, 1, 5, 1, 1);
    Make.points(yard, 2, 1, -5);
    figure(yard, "join of 0 and 1", yard.join(0, 1), 3, "0,0 2,0 1,5");
    figure(yard, "join of 1 and 0", yard.join(1, 0), 3, "0,0 2,0 1,5");
    figure(yard, "join of 0 and 2", yard.join(0, 2), 3, "0,0 1,-5 2,0");

    told.says("- `heap`: 0 to 2");
    figure(yard, "join of 2 and 1", yard.join(2, 1), 2, "1,-5 1,5");
    told.says("- `other`: 0 to 2, perhaps the same");
    figure(yard, "join of 1 and 2", yard.join(1, 2), 2, "1,-5 1,5");
    figure(yard, "join of one with itself", yard.join(0, 0), 2, "0,0 2,0");
    figure(yard, "join of a place with itself", yard.join(2, 2), 1, "1,-5");
    HullyardSurveys halves = new HullyardSurveys();
    for (int i = 0; i < 30; i++) {
      Make.points(halves, 0, i, i * i % 7);
      Make.points(halves, 2, i, -(i * i % 7));
    }
    halves.join(0, 2);
    due.same("join of 60 points, its greatest x", halves.lies(29, 0), 0);
  }

  private void joinRefuses() {
    told.says("Throws `IllegalArgumentException` if heap or other is out of range");
    HullyardSurveys yard = Make.heap(1, 1, 2, 2);
    yard.hull(0);
    for (int heap : NO_HEAPS) {
      due.raises("join of " + heap + ", 0", BAD, () -> yard.join(heap, 0));
      due.raises("join of 0, " + heap, BAD, () -> yard.join(0, heap));
      due.raises("join of an empty heap, " + heap, BAD, () -> yard.join(1, heap));
      due.raises("join of " + heap + ", an empty heap", BAD, () -> yard.join(heap, 1));
      due.raises("join of " + heap + " with itself", BAD, () -> yard.join(heap, heap));
    }

    told.says("Throws `NoSuchElementException` if one of both is empty");
    due.raises("join of 0, 1", EMPTY, () -> yard.join(0, 1));
    due.raises("join of 1, 0", EMPTY, () -> yard.join(1, 0));
    due.raises("join of 1, 1", EMPTY, () -> yard.join(1, 1));
    due.raises("join of 1, 2", EMPTY, () -> yard.join(1, 2));
    due.sameText("the figure after it", Make.figure(yard), "1,1 2,2");
    told.end();
  }

  private void sum() {
    told.promise(11);
    told.says(
        "Makes the figure the sum of the hulls of two heaps.",
        "Returns the number of corners of the figure.");
    HullyardSurveys yard = Make.heap(0, 0, 1, 0, 0, 1);
    Make.points(yard, 1, 5, 5);
    Make.points(yard, 2, 0, 0, 3, 0);
    figure(yard, "sum of a triangle and a place", yard.sum(0, 1), 3, "5,5 6,5 5,6");
    figure(yard, "sum of a place and a triangle", yard.sum(1, 0), 3, "5,5 6,5 5,6");
    figure(yard, "sum of a triangle and a stretch", yard.sum(0, 2), 4, "0,0 4,0 3,1 0,1");
    HullyardSurveys within = Make.heap(0, 0, 4, 0, 0, 4, 1, 1);
    Make.points(within, 1, 0, 0, 2, 0, 1, 0);
    figure(within, "sum of hulls, not of points", within.sum(0, 1), 4, "0,0 6,0 2,4 0,4");

    told.says("- `heap`: 0 to 2");
    figure(yard, "sum of a stretch and a place", yard.sum(2, 1), 2, "5,5 8,5");
    told.says("- `other`: 0 to 2, perhaps the same");
    figure(yard, "sum of a place and a stretch", yard.sum(1, 2), 2, "5,5 8,5");
    figure(yard, "sum of a triangle with itself", yard.sum(0, 0), 3, "0,0 2,0 0,2");
    figure(yard, "sum of a stretch with itself", yard.sum(2, 2), 2, "0,0 6,0");
    figure(yard, "sum of a place with itself", yard.sum(1, 1), 1, "10,10");
  }

  private void sumRefuses() {
    told.says("Throws `IllegalArgumentException` if heap or other is out of range");
    HullyardSurveys yard = Make.heap(1, 1, 2, 2);
    yard.hull(0);
    for (int heap : NO_HEAPS) {
      due.raises("sum of " + heap + ", 0", BAD, () -> yard.sum(heap, 0));
      due.raises("sum of 0, " + heap, BAD, () -> yard.sum(0, heap));
      due.raises("sum of an empty heap, " + heap, BAD, () -> yard.sum(1, heap));
      due.raises("sum of " + heap + ", an empty heap", BAD, () -> yard.sum(heap, 1));
      due.raises("sum of " + heap + " with itself", BAD, () -> yard.sum(heap, heap));
    }

    told.says("Throws `NoSuchElementException` if one of both is empty");
    due.raises("sum of 0, 1", EMPTY, () -> yard.sum(0, 1));
    due.raises("sum of 1, 0", EMPTY, () -> yard.sum(1, 0));
    due.raises("sum of 1, 1", EMPTY, () -> yard.sum(1, 1));
    due.raises("sum of 1, 2", EMPTY, () -> yard.sum(1, 2));
    due.sameText("the figure after it", Make.figure(yard), "1,1 2,2");
    told.end();
  }

  /** As many layers as 60 points can have. */
  private static HullyardSurveys deep() {
    HullyardSurveys yard = new HullyardSurveys();
    for (int i = 1; i <= 19; i++) {
      Make.points(yard, 0, -2 * i, -i, 2 * i, -i, 0, 2 * i);
    }
    Make.points(yard, 0, 0, 0, 1, 0, 0, 0);
    return yard;
  }

  private void layers() {
    told.promise(12);
    told.says("Counts the layers of a heap.", "Returns how many there are.");
    HullyardSurveys yard =
        Make.heap(0, 0, 6, 0, 6, 6, 0, 6, 3, 0, 2, 2, 4, 2, 3, 4, 3, 3, 3, 3, 6, 0);
    due.same("layers", yard.layers(0), 3);
    due.same("layers of an empty heap", yard.layers(1), 0);
    due.same("layers of one point", Make.heap(1, 1).layers(0), 1);
    due.same("layers of 60 points", deep().layers(0), 20);
    due.same("count after layers", yard.count(0), 11);
    due.same("corners after layers", yard.corners(), 0);

    told.says("- `heap`: 0 to 2");
    Make.points(yard, 2, 8, 8);
    due.same("layers of heap 2", yard.layers(2), 1);
    due.same("layers of heap 0", yard.layers(0), 3);

    told.says("Throws `IllegalArgumentException` if heap is out of range");
    for (int heap : NO_HEAPS) {
      due.raises("layers of " + heap, BAD, () -> yard.layers(heap));
    }
    told.end();
  }

  private void layer() {
    told.promise(13);
    told.says(
        "Makes the figure a layer of a heap.", "Returns the number of corners of the figure.");
    HullyardSurveys yard =
        Make.heap(0, 0, 6, 0, 6, 6, 0, 6, 3, 0, 2, 2, 4, 2, 3, 4, 3, 3, 3, 3, 6, 0);
    figure(yard, "layer 2", yard.layer(0, 2), 1, "3,3");
    figure(yard, "layer 1", yard.layer(0, 1), 3, "2,2 4,2 3,4");
    due.same("count after layer", yard.count(0), 11);

    told.says("- `heap`: 0 to 2");
    Make.points(yard, 2, 8, 8);
    figure(yard, "layer of heap 2", yard.layer(2, 0), 1, "8,8");
    told.says("- `layer`: from 0");
    figure(yard, "layer 0", yard.layer(0, 0), 4, "0,0 6,0 6,6 0,6");
    HullyardSurveys deep = deep();
    figure(deep, "the last layer of 60 points", deep.layer(0, 19), 2, "0,0 1,0");
    figure(deep, "the one ahead of it", deep.layer(0, 18), 3, "-2,-1 2,-1 0,2");

    told.says("Throws `IllegalArgumentException` if heap is out of range");
    for (int heap : NO_HEAPS) {
      due.raises("layer of " + heap, BAD, () -> yard.layer(heap, 0));
      due.raises("layer of " + heap + ", no layer", BAD, () -> yard.layer(heap, -1));
    }

    told.says("Throws `IndexOutOfBoundsException` if there is no such layer");
    for (int layer : new int[] {3, 4, -1, 60, LEAST, MOST}) {
      due.raises("layer " + layer, NONE, () -> yard.layer(0, layer));
    }
    due.raises("layer 0 of an empty heap", NONE, () -> yard.layer(1, 0));
    due.raises("layer 20 of 20", NONE, () -> deep.layer(0, 20));
    due.raises("layer 1 of one point", NONE, () -> Make.heap(5, 5).layer(0, 1));
    HullyardSurveys around = Make.heap(0, 0, 9, 0, 0, 9, 1, 1);
    due.raises("a layer behind one point", NONE, () -> around.layer(0, 2));
    due.raises("a layer far behind one point", NONE, () -> around.layer(0, 9));
    due.sameText("the figure after it", Make.figure(yard), "0,0 6,0 6,6 0,6");
    told.end();
  }

  private void hullOf() {
    told.promise(14);
    told.says(
        "Makes the figure the hull of the corners of a polygon.",
        "Returns the number of corners of the figure.");
    HullyardSurveys yard = Make.polygon(0, 0, 4, 0, 1, 1, 0, 4, 0, 2);
    figure(yard, "hullOf a polygon", yard.hullOf(0), 3, "0,0 4,0 0,4");
    Make.corners(yard, 1, 0, 0, 2, 2, 0, 2, 2, 0);
    figure(yard, "hullOf what is not simple", yard.hullOf(1), 4, "0,0 2,0 2,2 0,2");
    Make.corners(yard, 2, 9, 9);
    figure(yard, "hullOf one corner", yard.hullOf(2), 1, "9,9");
    yard.add(2, 9, 9);
    figure(yard, "hullOf two corners at a place", yard.hullOf(2), 1, "9,9");
    HullyardSurveys full = new HullyardSurveys();
    for (int i = -8; i < 8; i++) {
      full.add(0, i, i * i);
    }
    due.same("hullOf 16 corners", full.hullOf(0), 16);

    told.says("- `polygon`: 0 to 3");
    Make.corners(yard, 3, 5, 5, 1, 1);
    figure(yard, "hullOf polygon 3", yard.hullOf(3), 2, "1,1 5,5");
    figure(yard, "hullOf polygon 0", yard.hullOf(0), 3, "0,0 4,0 0,4");

    told.says("Throws `IllegalArgumentException` if polygon is out of range");
    for (int polygon : NO_POLYGONS) {
      due.raises("hullOf " + polygon, BAD, () -> yard.hullOf(polygon));
    }

    told.says("Throws `NoSuchElementException` if it has no corners");
    due.raises("hullOf no corners", EMPTY, () -> new HullyardSurveys().hullOf(3));
    yard.clear(3);
    due.raises("hullOf a cleared polygon", EMPTY, () -> yard.hullOf(3));
    due.sameText("the figure after it", Make.figure(yard), "0,0 4,0 0,4");
    told.end();
  }

  private void corners() {
    told.promise(15);
    told.says("Counts its corners.", "Returns how many there are; 0 of nothing.");
    HullyardSurveys yard = Make.heap(0, 0, 4, 0, 4, 4, 0, 4, 2, 0, 2, 2);
    due.same("corners of nothing", yard.corners(), 0);
    yard.hull(0);
    due.same("corners of a square", yard.corners(), 4);
    Make.points(yard, 1, 7, 7);
    yard.hull(1);
    due.same("corners of a place", yard.corners(), 1);
    Make.points(yard, 1, 8, 8);
    due.same("corners after a point has come", yard.corners(), 1);
    yard.hull(1);
    due.same("corners of a stretch", yard.corners(), 2);
    told.end();
  }

  private void corner() {
    told.promise(16);
    told.says("Returns a number of a corner.", "Returns x or y.");
    HullyardSurveys yard = hullOfHeap(-3, 7, 5, -9, 6, 6);
    due.same("x of corner 1", yard.corner(1, false), 5);
    due.same("y of corner 1", yard.corner(1, true), -9);
    told.says("- `corner`: from 0");
    due.same("x of corner 0", yard.corner(0, false), -3);
    due.same("y of the last corner", yard.corner(2, true), 6);
    told.says("- `isY`: whether y is asked");
    due.same("x of corner 0", yard.corner(0, false), -3);
    due.same("y of corner 0", yard.corner(0, true), 7);

    told.says("Throws `IndexOutOfBoundsException` if there is no such corner");
    for (int corner : new int[] {-1, 3, 60, LEAST, MOST}) {
      due.raises("x of corner " + corner, NONE, () -> yard.corner(corner, false));
      due.raises("y of corner " + corner, NONE, () -> yard.corner(corner, true));
    }
    Make.points(yard, 1, 1, 1);
    yard.hull(1);
    due.raises("corner of an older figure", NONE, () -> yard.corner(1, false));
    due.raises("corner of nothing", NONE, () -> new HullyardSurveys().corner(0, true));
    told.end();
  }

  private void area() {
    told.promise(17);
    told.says("Returns its doubled area.", "Returns the doubled area; 0 of nothing.");
    due.same("area of nothing", new HullyardSurveys().area(), 0);
    due.same("area of a place", hullOfHeap(9, 9).area(), 0);
    due.same("area of a stretch", hullOfHeap(9, 9, -9, 3).area(), 0);
    due.same("area of a triangle", hullOfHeap(0, 0, 6, 0, 0, 4).area(), 24);
    due.same("the least area", hullOfHeap(-200, 200, -199, 200, -200, 199).area(), 1);
    HullyardSurveys lesser = Make.heap(0, 0, 4, 1, 9, 7, 3, 8);
    Make.points(lesser, 1, 1, 1, 2, 1, 1, 2);
    lesser.hull(0);
    lesser.hull(1);
    due.same("area behind a figure with more corners", lesser.area(), 1);
    HullyardSurveys yard = Make.heap(GREATEST);
    yard.sum(0, 0);
    due.same("the greatest area", yard.area(), 1280000);
    told.end();
  }

  private void edge() {
    told.promise(18);
    told.says("Counts the places on its edge.", "Returns how many there are; 0 of nothing.");
    due.same("edge of nothing", new HullyardSurveys().edge(), 0);
    due.same("edge of a place", hullOfHeap(9, 9).edge(), 1);
    due.same("edge of a stretch that rises", hullOfHeap(0, 0, 6, 4).edge(), 3);
    due.same("edge of a stretch that stands", hullOfHeap(0, 0, 0, 4).edge(), 5);
    due.same("edge of a stretch that lies", hullOfHeap(-1, 0, 3, 0).edge(), 5);
    due.same("edge of a stretch without places", hullOfHeap(0, 0, 5, 3).edge(), 2);
    due.same("edge of a triangle", hullOfHeap(0, 0, 6, 0, 0, 4).edge(), 12);
    due.same("the least edge of a polygon", hullOfHeap(0, 0, 1, 0, 0, 1).edge(), 3);
    HullyardSurveys yard = Make.heap(GREATEST);
    yard.sum(0, 0);
    due.same("the greatest edge", yard.edge(), 3200);
    told.end();
  }

  private void inner() {
    told.promise(19);
    told.says(
        "Counts the places inside of it.",
        "Returns how many there are, those on the edge left out.");
    due.same("inner of nothing", new HullyardSurveys().inner(), 0);
    due.same("inner of a place", hullOfHeap(9, 9).inner(), 0);
    due.same("inner of a stretch", hullOfHeap(0, 0, 9, 9).inner(), 0);
    due.same("inner of a half square", hullOfHeap(0, 0, 1, 0, 0, 1).inner(), 0);
    due.same("inner of a triangle", hullOfHeap(0, 0, 6, 0, 0, 4).inner(), 7);
    due.same("inner of a slant triangle", hullOfHeap(0, 0, 2, 1, 1, 2).inner(), 1);
    HullyardSurveys yard = Make.heap(GREATEST);
    yard.sum(0, 0);
    due.same("the greatest inner", yard.inner(), 799 * 799);
    told.end();
  }

  private void lies() {
    told.promise(20);
    told.says(
        "Tells where a place lies, beside the figure.",
        "Returns 1 inside, 0 on the edge, -1 outside; -1 of nothing.");
    due.same("lies of nothing", new HullyardSurveys().lies(0, 0), -1);
    HullyardSurveys yard = hullOfHeap(0, 0, 4, 0, 4, 3, 0, 3);
    due.same("lies inside", yard.lies(1, 1), 1);
    due.same("lies at a corner", yard.lies(4, 3), 0);
    due.same("lies on a side", yard.lies(2, 0), 0);
    due.same("lies on the left side", yard.lies(0, 2), 0);
    due.same("lies on the line of a side", yard.lies(5, 0), -1);
    due.same("lies on the line of the top", yard.lies(-1, 3), -1);
    due.same("lies under", yard.lies(2, -1), -1);
    due.same("lies over", yard.lies(2, 4), -1);
    HullyardSurveys stretch = hullOfHeap(0, 0, 4, 2);
    due.same("lies on a stretch", stretch.lies(2, 1), 0);
    due.same("lies at its end", stretch.lies(4, 2), 0);
    due.same("lies behind its end", stretch.lies(6, 3), -1);
    due.same("lies ahead of it", stretch.lies(-2, -1), -1);
    due.same("lies beside it", stretch.lies(2, 2), -1);
    HullyardSurveys place = hullOfHeap(3, -3);
    due.same("lies at the place", place.lies(3, -3), 0);
    due.same("lies above the place", place.lies(3, -2), -1);
    due.same("lies left of the place", place.lies(2, -3), -1);
  }

  private void liesFarAway() {
    int[] far = {LEAST, MOST, LEAST + 1, 1 << 30, (1 << 30) + 1, -(1 << 30), -(1 << 30) + 1};
    HullyardSurveys yard = Make.heap(-200, -199, 199, -200, 200, 198, -197, 200);
    yard.sum(0, 0);
    HullyardSurveys square = hullOfHeap(0, 0, 4, 0, 4, 4, 0, 4);
    HullyardSurveys stretch = hullOfHeap(-200, -200, 200, 200);
    told.says("- `x`: any number");
    for (int x : far) {
      due.same("lies at " + x + ", 0", yard.lies(x, 0), -1);
      due.same("lies at " + x + ", 1 of a square", square.lies(x, 1), -1);
      due.same("lies at " + x + ", 4 of a square", square.lies(x, 4), -1);
      due.same("lies at " + x + ", 0 of a stretch", stretch.lies(x, 0), -1);
      due.same("lies at " + x + ", 0 of nothing", new HullyardSurveys().lies(x, 0), -1);
    }
    due.same("lies at x -390", yard.lies(-390, -390), 1);
    due.same("lies at x -400", yard.lies(-400, -398), 0);
    due.same("lies at x -401", yard.lies(-401, -398), -1);

    told.says("- `y`: any number");
    for (int y : far) {
      due.same("lies at 0, " + y, yard.lies(0, y), -1);
      due.same("lies at 1, " + y + " of a square", square.lies(1, y), -1);
      due.same("lies at 4, " + y + " of a square", square.lies(4, y), -1);
      due.same("lies at 0, " + y + " of a stretch", stretch.lies(0, y), -1);
      for (int x : far) {
        due.same("lies at " + x + ", " + y, yard.lies(x, y), -1);
        due.same("lies at " + x + ", " + y + " of a stretch", stretch.lies(x, y), -1);
      }
    }
    told.end();
  }

  private void width(HullyardSurveys yard, String what, long over, long under) {
    due.same("width over of " + what, yard.width(false), over);
    due.same("width under of " + what, yard.width(true), under);
  }

  private void width() {
    told.promise(21);
    told.says("Returns a number of its width, squared (section 5).", "Returns the number.");
    width(hullOfHeap(0, 0, 4, 0, 4, 3, 0, 3), "a box", 9, 1);
    width(hullOfHeap(0, 0, 3, 1, 1, 3), "a slant triangle", 32, 5);
    HullyardSurveys great = Make.heap(GREATEST);
    great.sum(0, 0);
    width(great, "the greatest square", 640000, 1);
    HullyardSurveys deep = Make.heap(-200, 0, 0, -200, 200, 0, 0, 200);
    deep.sum(0, 0);
    width(deep, "a square on its corner", 320000, 1);
    HullyardSurveys thin = hullOfHeap(-200, -200, 200, 199, 199, 198);
    width(thin, "a thin triangle", 1, 400 * 400 + 399 * 399);
    HullyardSurveys odd = Make.heap(-200, -199, 199, -200, 198, 197);
    odd.hull(0);
    width(odd, "what goes beyond an int", 6272798401L, 78805);
    odd.sum(0, 0);
    width(odd, "what goes far beyond an int", 25091193604L, 78805);

    told.says("- `isUnder`: true for the denominator, false for the numerator");
    HullyardSurveys half = hullOfHeap(0, 0, 1, 0, 0, 1);
    due.same("the denominator", half.width(true), 2);
    due.same("the numerator", half.width(false), 1);

    told.says("Throws `IllegalStateException` if it has fewer than 3 corners");
    for (boolean isUnder : new boolean[] {false, true}) {
      HullyardSurveys few = Make.heap(0, 0, 5, 5);
      due.raises("width of nothing", STATE, () -> few.width(isUnder));
      few.hull(0);
      due.raises("width of a stretch", STATE, () -> few.width(isUnder));
      Make.points(few, 1, 1, 1);
      few.hull(1);
      due.raises("width of a place", STATE, () -> few.width(isUnder));
      due.sameText("the figure after it", Make.figure(few), "1,1");
      Make.points(few, 0, 5, 4);
      few.hull(0);
      due.same("width of a triangle is told", few.width(isUnder) > 0, true);
    }
    told.end();
  }

  private void checksum() {
    told.promise(46);
    told.says("Returns a sum of the figure: 17 at first,", "Returns the sum.");
    due.same("checksum of nothing", new HullyardSurveys().checksum(), 17);

    told.says("then for each corner 31 times as much and x, and likewise with y;");
    due.same("checksum of a place at 0", hullOfHeap(0, 0).checksum(), 17 * 31 * 31);
    due.same("checksum of a place", hullOfHeap(1, 1).checksum(), 16369);
    due.same("checksum of a place, x and y unlike", hullOfHeap(2, -1).checksum(), 16398);
    due.same("checksum of a stretch", hullOfHeap(0, 1, 1, 0).checksum(), 15700849);

    told.says("it wraps.");
    due.same("checksum of a triangle", hullOfHeap(0, 0, 2, 0, 2, 2).checksum(), -2092246961);
    due.same(
        "checksum of four corners", hullOfHeap(-5, 7, 3, -2, 6, 6, 1, 9).checksum(), 1215711552);
    HullyardSurveys yard = Make.heap(GREATEST);
    yard.sum(0, 0);
    due.same("checksum of the greatest square", yard.checksum(), 1984032529);
    told.end();
  }

  private void fills() {
    told.promise(48);
    told.says("Returns the share of its box that the figure fills.");
    due.sameReal("fills of a half box", hullOfHeap(0, 0, 3, 0, 0, 4).fills(), 0.5f);
    due.sameReal("fills of a box away from 0", hullOfHeap(3, 5, 5, 5, 5, 9, 3, 9).fills(), 1.0f);
    due.sameReal(
        "fills of a box below 0", hullOfHeap(-3, -5, -5, -5, -5, -9, -3, -9).fills(), 1.0f);

    told.says(
        "Returns its doubled area, converted to float, divided by twice the area of its box,"
            + " converted to float;");
    due.sameReal("fills of a triangle", hullOfHeap(0, 0, 3, 1, 1, 3).fills(), 8f / 18f);
    due.sameReal("fills of a thin triangle", hullOfHeap(0, 0, 7, 3, 2, 1).fills(), 1f / 42f);
    HullyardSurveys great = Make.heap(-200, -200, 200, -199, -199, 200);
    great.sum(0, 0);
    due.sameReal("fills of a great triangle", great.fills(), (float) 639996 / (float) 1280000);

    told.says("0.0f if the box has no area, or of nothing.");
    due.sameReal("fills of nothing", new HullyardSurveys().fills(), 0.0f);
    due.sameReal("fills of a place", hullOfHeap(5, 5).fills(), 0.0f);
    due.sameReal("fills of a stretch that stands", hullOfHeap(1, 1, 1, 5).fills(), 0.0f);
    due.sameReal("fills of a stretch that lies", hullOfHeap(1, 1, 5, 1).fills(), 0.0f);
    due.sameReal("fills of a slant stretch", hullOfHeap(0, 0, 5, 3).fills(), 0.0f);
    told.end();
  }

  /** All 60 points are corners of their hull: the figure has as many as it can have. */
  private void sixtyCorners() {
    HullyardSurveys yard = new HullyardSurveys();
    int[] round = Make.sixtyCorners();
    Make.points(yard, 1, round);
    due.same("hull of 60 corners", yard.hull(1), 60);
    due.sameText("its figure", Make.figure(yard), asFigure(round, 1));
    due.raises("corner 60 of 60", NONE, () -> yard.corner(60, true));
    int area = yard.area();
    int edge = yard.edge();
    due.same("join of 60 corners", yard.join(1, 1), 60);
    due.same("layers of 60 corners", yard.layers(1), 1);
    due.same("layer of 60 corners", yard.layer(1, 0), 60);
    due.same("apart of 60 corners", yard.apart(1, 1), false);
    due.same("errors of 60 corners", yard.errors(), 0);
    due.same("area of 60 corners", yard.area(), area);
    due.same("sum of 60 corners", yard.sum(1, 1), 60);
    due.sameText("its figure", Make.figure(yard), asFigure(round, 2));
    due.same("area of their sum", yard.area(), 4 * area);
    due.same("edge of their sum", yard.edge(), 2 * edge);
  }

  private static String asFigure(int[] numbers, int times) {
    StringBuilder figure = new StringBuilder();
    for (int i = 0; i < numbers.length; i += 2) {
      figure.append(i == 0 ? "" : " ");
      figure.append(times * numbers[i]).append(',').append(times * numbers[i + 1]);
    }
    return figure.toString();
  }

  /** The figure is what it was made, whatever comes to the heap, and whatever else is asked. */
  private void figureStays() {
    HullyardSurveys yard = Make.heap(0, 0, 4, 0, 4, 4, 0, 4, 2, 2);
    Make.points(yard, 1, 50, 50);
    Make.corners(yard, 0, 0, 0, 9, 0, 0, 9);
    yard.hull(0);
    yard.point(0, 100, 100);
    yard.drop(0);
    yard.layers(0);
    yard.apart(0, 1);
    yard.errors();
    yard.sorted(0, 1);
    yard.places(0);
    yard.fence(0, 2);
    yard.box(0, 1);
    yard.pair(0, true);
    yard.triangles(0);
    yard.holds(0, 0);
    yard.meanFar(0);
    yard.image();
    yard.restore();
    yard.clear(0);
    due.sameText("the figure stays", Make.figure(yard), "0,0 4,0 4,4 0,4");
    due.same("hull after the changes", yard.hull(0), 3);
    due.sameText("the new figure", Make.figure(yard), "0,4 4,0 100,100");
  }
}
