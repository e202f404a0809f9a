/** Section 3 of the terms, and promises 22 to 29, sentence by sentence. */
public final class PolygonsTest {
  private static final Class<IllegalArgumentException> BAD = IllegalArgumentException.class;
  private static final Class<IllegalStateException> STATE = IllegalStateException.class;

  private static final int LEAST = Integer.MIN_VALUE;
  private static final int MOST = Integer.MAX_VALUE;
  private static final int[] NO_POLYGONS = {-1, 4, LEAST, MOST};
  private static final int[] NO_HEAPS = {-1, 3, LEAST, MOST};
  private static final int[] TOO_FAR = {-201, 201, LEAST, MOST};

  private final Due due = new Due();
  private final Told told = new Told(due);

  private PolygonsTest() throws java.io.IOException {
  }

  public static void main(String[] args) throws java.io.IOException {
    PolygonsTest test = new PolygonsTest();
    test.whatPolygonsAre();
    test.whatSimpleIs();
    test.whatAnAreaIs();
    test.whatPartingIs();
    test.whatSeeingIs();
    test.add();
    test.addRefuses();
    test.clear();
    test.isSimple();
    test.polygonArea();
    test.polygonEdge();
    test.polygonInner();
    test.polygonLies();
    test.holds();
    test.due.end();
  }

  private static HullyardSurveys sixteen() {
    return Make.polygon(Make.SIXTEEN);
  }

  private void simple(String what, boolean want, int... numbers) {
    due.same("isSimple of " + what, Make.polygon(numbers).isSimple(0), want);
  }

  private void area(String what, int want, int... numbers) {
    due.same("polygonArea of " + what, Make.polygon(numbers).polygonArea(0), want);
  }

  private void parted(String what, int[] numbers, int... triangles) {
    HullyardSurveys yard = Make.polygon(numbers);
    due.same("triangles of " + what, yard.triangles(0), triangles.length);
    for (int i = 0; i < triangles.length; i++) {
      due.same("triangle " + i + " of " + what, yard.triangleAt(0, i), triangles[i]);
    }
  }

  private void seen(int[] numbers, int corner, int other, boolean want) {
    HullyardSurveys yard = Make.polygon(numbers);
    due.same("sees " + corner + ", " + other, yard.sees(0, corner, other), want);
    due.same("sees " + other + ", " + corner, yard.sees(0, other, corner), want);
  }

  private void whatPolygonsAre() {
    told.section(3, "\n4. Lines");
    told.says(
        "There are four polygons, 0 to 3, each a row of corners, at most 16, with x and y from -200"
            + " to 200;");
    HullyardSurveys yard = new HullyardSurveys();
    for (int polygon = 0; polygon < 4; polygon++) {
      due.same("the first corner", yard.add(polygon, -200, 200), 1);
      due.same("the next corner", yard.add(polygon, 200, -200), 2);
    }
    due.raises("a corner of polygon 4", BAD, () -> yard.add(4, 0, 0));
    due.raises("a corner of polygon -1", BAD, () -> yard.add(-1, 0, 0));
    due.raises("a corner too far left", BAD, () -> yard.add(0, -201, 0));
    due.raises("a corner too far up", BAD, () -> yard.add(0, 0, 201));
    due.raises("the 17th corner", STATE, () -> sixteen().add(0, 0, 0));

    told.says(
        "the edges go from each corner to the next one, and from the last one to the first.");
    HullyardSurveys square = Make.polygon(0, 0, 4, 0, 4, 4, 0, 4);
    due.same("on the edge of corners 1 and 2", square.polygonLies(0, 4, 2), 0);
    due.same("on the edge of the last and the first", square.polygonLies(0, 0, 2), 0);
    due.same("on no edge", square.polygonLies(0, 2, 2), 1);
    due.same("places on all four edges", square.polygonEdge(0), 16);
  }

  private void whatSimpleIs() {
    told.says("A polygon with at least 3 corners is simple if no two of its corners are at one place,");
    simple("no corners", false);
    simple("one corner", false, 0, 0);
    simple("two corners", false, 0, 0, 4, 0);
    simple("three corners", true, 0, 0, 4, 0, 0, 4);
    simple("three corners at two places", false, 0, 0, 4, 0, 0, 0);
    simple("a corner that comes twice in a row", false, 0, 0, 0, 0, 4, 4);
    simple("the last corner at the first one", false, 0, 0, 4, 0, 4, 4, 0, 0);
    simple("the first two at one place", false, 4, 0, 4, 0, 4, 4, 0, 4);
    simple("the last two at one place", false, 0, 0, 4, 0, 4, 4, 4, 4);
    simple("a corner that comes again", false, 0, 0, 4, 0, 2, 2, 4, 4, 0, 4, 2, 2);
    simple("two triangles at one corner", false, 2, 2, 0, 0, 4, 0, 2, 2, 4, 4, 0, 4);
    simple("three corners at one place", false, 5, 5, 5, 5, 5, 5);

    told.says(
        "and no two edges have a place in common, but edges that are neighbours their common"
            + " corner.");
    simple("edges that cross", false, Make.CROSSED);
    simple("a far crossing", false, -200, -200, 200, 200, 199, 200, 200, 199);
    simple("edges that all but touch", true, 0, 0, 200, 199, 200, 200, 1, 1);
    simple("a corner on an edge", false, 0, 0, 4, 0, 4, 4, 2, 0, 0, 4);
    simple("a first corner on an edge", false, 2, 0, 0, 4, 0, 0, 4, 0, 4, 4);
    simple("an edge along another one", false, 0, 0, 6, 0, 6, 4, 4, 4, 4, 0, 2, 0, 2, 4, 0, 4);
    simple("neighbours, the second one back on the first", false, 0, 0, 4, 0, 2, 0, 2, 4);
    simple("neighbours, the second one back beyond", false, 2, 0, 4, 0, 0, 0, 2, 4);
    simple("neighbours at the first corner", false, 2, 0, 2, 4, 0, 0, 4, 0);
    simple("neighbours at the last corner", false, 2, 4, 0, 0, 4, 0, 2, 0);
    simple("there and back", false, 2, 2, 0, 0, 2, 2, 4, 0);
    simple("what is notched", true, Make.NOTCHED);
    simple("a comb", true, Make.COMB);
    simple("flat corners", true, 0, 0, 2, 0, 4, 0, 4, 4, 2, 4, 0, 4);

    told.says("(With 3 corners on a line it is not simple.)");
    simple("three corners on a line", false, 0, 0, 2, 0, 4, 0);
    simple("three corners on a line, there and back", false, 0, 0, 4, 0, 2, 0);
    simple("three corners on a slant line", false, -200, -200, 200, 200, 0, 0);
    simple("three corners all but on a line", true, -200, -200, 200, 200, 0, 1);
    simple("four corners on a line", false, 0, 0, 1, 1, 3, 3, 2, 2);
  }

  private void whatAnAreaIs() {
    told.says(
        "The doubled area of a polygon is the sum, over its edges, from (x, y) to (u, v), of x * v"
            + " - y * u: above 0 if it goes round to the left.");
    area("what goes to the left", 12, 0, 0, 4, 0, 0, 3);
    area("what goes to the right", -12, 0, 0, 0, 3, 4, 0);
    area("what is away from 0", 1, 100, 100, 101, 100, 100, 101);
    area("what crosses", 0, Make.CROSSED);
    area("what is notched", 20, Make.NOTCHED);

    told.says(
        "A place is on the edge, if it is on one of the edges, inside, if the polygon is simple"
            + " and goes round it, or outside.");
    HullyardSurveys comb = Make.polygon(Make.COMB);
    due.same("on the bottom between teeth", comb.polygonLies(0, 3, 2), 0);
    due.same("in a tooth", comb.polygonLies(0, 1, 4), 1);
    due.same("between teeth", comb.polygonLies(0, 3, 4), -1);
    HullyardSurveys crossed = Make.polygon(Make.CROSSED);
    due.raises("a place in what crosses", STATE, () -> crossed.polygonLies(0, 1, 1));
  }

  private void whatPartingIs() {
    told.says(
        "Parting a simple polygon: as long as there are more than 3 corners, an ear is cut off: the"
            + " first one, in the order of the corners that are left, at which the polygon turns"
            + " the way in which it goes round,");
    parted("a square", new int[] {0, 0, 4, 0, 4, 4, 0, 4}, 30001, 10203);
    parted("a square to the right", new int[] {0, 0, 0, 4, 4, 4, 4, 0}, 30001, 10203);
    parted("a pentagon", new int[] {0, 0, 4, 0, 6, 3, 3, 6, -1, 3}, 40001, 40102, 20304);
    // Corner 0 turns the other way.
    parted("what begins in a notch", new int[] {2, 1, 0, 4, 0, 0, 4, 0, 4, 4}, 102, 203, 304);

    told.says(
        "and whose triangle, with the corner ahead and the one behind of those that are left, has"
            + " no other corner of those that are left inside or on its edge.");
    // Corners 0, 1 (and 4, 0 to the right) have the bottom of the notch in their triangles.
    parted("what is notched", Make.NOTCHED, 10203, 103, 304);
    parted("what is notched, to the right",
        new int[] {0, 4, 2, 1, 4, 4, 4, 0, 0, 0}, 40001, 10203, 10304);
    // At corner 0 the triangle 3 0 1 has corner 2 on its edge from 1 to 3.
    parted("a corner on the cut", new int[] {0, 0, 4, 0, 2, 2, 0, 4}, 102, 203);
    parted("a notch that reaches the cut",
        new int[] {0, 0, 4, 0, 4, 4, 2, 2, 0, 4}, 10203, 103, 304);

    told.says(
        "(A corner at which the ones ahead and behind are on a line with it is no ear.");
    parted("a flat corner", new int[] {0, 0, 2, 0, 4, 0, 4, 4, 0, 4}, 40001, 40102, 20304);
    // With corner 1 cut off, corner 0 is flat no longer.
    parted("a flat first corner", new int[] {2, 0, 4, 0, 4, 4, 0, 4, 0, 0}, 102, 40002, 20304);

    // A simple polygon always has one, so the parting always ends with two triangles fewer.
    told.says("If there is no ear, the parting ends there.)");
    due.same("triangles of 16 corners", sixteen().triangles(0), 14);
    due.same("triangles of a comb", Make.polygon(Make.COMB).triangles(0), 10);
    due.same("triangles of a triangle with flat corners on all sides",
        Make.polygon(0, 0, 2, 0, 4, 0, 6, 0, 4, 2, 2, 4, 0, 6, 0, 4, 0, 2).triangles(0), 7);

    told.says("The last 3 corners make a triangle, too.");
    parted("a triangle", new int[] {0, 0, 4, 0, 0, 4}, 102);
    parted("a triangle to the right", new int[] {0, 0, 0, 4, 4, 0}, 102);

    told.says(
        "Triangles are told by the numbers of their corners: the one before the ear in the order of"
            + " those that are left (before the first one comes the last one), the ear, the one"
            + " behind it.");
    due.same("the ear is the first corner",
        Make.polygon(0, 0, 4, 0, 4, 4, 0, 4).triangleAt(0, 0), 30001);
    due.same("the ear is corner 2", Make.polygon(Make.NOTCHED).triangleAt(0, 0), 10203);
    due.same("the one ahead is corner 0", Make.polygon(Make.NOTCHED).triangleAt(0, 1), 103);
    due.same("the ear is the first of those that are left", sixteen().triangleAt(0, 1), 150102);
  }

  private void whatSeeingIs() {
    told.says(
        "A corner of a simple polygon sees another one if no place of the stretch between them, be"
            + " it on the grid or not, is outside.");
    seen(Make.NOTCHED, 0, 2, false);
    seen(Make.NOTCHED, 0, 3, true);
    seen(Make.NOTCHED, 2, 4, false);
    // Along the bottoms between the teeth no place is outside, along the tops some are.
    seen(Make.COMB, 9, 4, true);
    seen(Make.COMB, 8, 5, true);
    seen(Make.COMB, 11, 2, false);
    seen(Make.COMB, 10, 7, false);
    // All places of the grid are its ends, which are corners.
    seen(new int[] {0, 0, 4, -4, 3, 1, 1, 0}, 0, 2, false);
    seen(new int[] {0, 0, 4, -4, 3, 1, 1, 0}, 1, 3, true);
    // It touches a corner, and goes on inside, or outside.
    seen(new int[] {0, 0, 4, 0, 4, 4, 2, 2, 0, 4}, 1, 4, true);
    seen(new int[] {0, 0, 2, 2, 4, 0, 4, 8, 2, 6, 0, 8}, 1, 4, true);
    seen(new int[] {0, 0, 2, 2, 4, 0, 4, 8, 2, 6, 0, 8}, 0, 3, true);
    seen(new int[] {0, 0, 2, 2, 4, 0, 4, 8, 2, 6, 0, 8}, 0, 2, false);
    // In at one corner and out at the next one: its middle is inside.
    int[] twice = {0, 0, 2, -2, 4, 0, 8, 0, 10, -2, 12, 0, 12, -6, 0, -6};
    seen(twice, 0, 5, false);
    seen(twice, 2, 3, true);
    seen(twice, 0, 3, false);
    seen(twice, 1, 4, true);
    // Out across edge 0 and in at corner 2, both behind the middle.
    int[] late = {6, 1, 7, -1, 8, 0, 9, 4, 12, 0, 12, -5, 0, -5, 0, 0, 2, 4};
    seen(late, 7, 4, false);
    seen(late, 7, 2, false);
    seen(late, 2, 4, true);
    told.end();
  }

  private void add() {
    told.promise(22);
    told.says("Adds a corner to a polygon, as its last one.", "Returns the number of its corners.");
    HullyardSurveys yard = new HullyardSurveys();
    due.same("the first corner", yard.add(1, 0, 0), 1);
    due.same("the next corner", yard.add(1, 4, 0), 2);
    due.same("a corner at the same place", yard.add(0, 4, 0), 1);
    due.same("the next corner", yard.add(1, 4, 4), 3);
    due.same("area of three", yard.polygonArea(1), 16);
    due.same("the next corner", yard.add(1, 0, 4), 4);
    due.same("area of four", yard.polygonArea(1), 32);
    due.same("the last one is the last", yard.isSimple(1), true);

    told.says("- `polygon`: 0 to 3");
    HullyardSurveys all = new HullyardSurveys();
    for (int polygon = 0; polygon < 4; polygon++) {
      due.same("add to " + polygon, all.add(polygon, 0, 0), 1);
    }
    for (int polygon : NO_POLYGONS) {
      due.raises("add to " + polygon, BAD, () -> all.add(polygon, 0, 0));
    }

    told.says("- `x`: -200 to 200");
    due.same("add at x -200", all.add(0, -200, 0), 2);
    due.same("add at x 200", all.add(0, 200, 0), 3);
    for (int far : TOO_FAR) {
      due.raises("add at x " + far, BAD, () -> all.add(0, far, 0));
    }

    told.says("- `y`: -200 to 200");
    due.same("add at y -200", all.add(0, 0, -200), 4);
    due.same("add at y 200", all.add(0, 0, 200), 5);
    for (int far : TOO_FAR) {
      due.raises("add at y " + far, BAD, () -> all.add(0, 0, far));
    }
  }

  private void addRefuses() {
    told.says("Throws `IllegalArgumentException` if a number is out of range");
    HullyardSurveys yard = sixteen();
    Make.corners(yard, 1, 0, 0, 1, 1);
    due.raises("all three out of range", BAD, () -> yard.add(4, 201, -201));
    due.raises("polygon out of range, 16 corners", BAD, () -> yard.add(-1, 0, 0));
    due.raises("x out of range, 16 corners", BAD, () -> yard.add(0, 201, 0));
    due.raises("y out of range, 16 corners", BAD, () -> yard.add(0, 0, -201));
    due.raises("x out of range", BAD, () -> yard.add(1, -201, 0));
    due.same("corners after it", yard.clear(1), 2);

    told.says("Throws `IllegalStateException` if it has 16");
    HullyardSurveys full = new HullyardSurveys();
    for (int corner = 1; corner <= 16; corner++) {
      due.same("corner", full.add(3, corner, 0), corner);
    }
    due.raises("the 17th corner", STATE, () -> full.add(3, 0, 0));
    due.same("a corner of another polygon", full.add(2, 0, 0), 1);
    due.same("corners after a refused one", full.clear(3), 16);
    due.same("a corner behind clear", full.add(3, 0, 0), 1);
    told.end();
  }

  private void clear() {
    told.promise(23);
    told.says("Takes all corners from a polygon.");
    HullyardSurveys yard = Make.polygon(0, 0, 4, 0, 4, 4);
    Make.corners(yard, 1, 0, 0, 4, 0, 4, 4);
    yard.clear(0);
    due.same("isSimple behind it", yard.isSimple(0), false);
    due.same("polygonArea behind it", yard.polygonArea(0), 0);
    due.same("isSimple of another one", yard.isSimple(1), true);
    Make.corners(yard, 0, 1, 1, 2, 1, 1, 2);
    due.same("polygonArea of the next corners", yard.polygonArea(0), 1);
    HullyardSurveys more = sixteen();
    more.clear(0);
    Make.corners(more, 0, 1, 1, 2, 1, 1, 2);
    due.same("polygonArea of fewer corners", more.polygonArea(0), 1);
    due.same("isSimple of fewer corners", more.isSimple(0), true);

    told.says("- `polygon`: 0 to 3");
    due.same("clear of 0", yard.clear(0), 3);
    yard.add(3, 9, 9);
    due.same("clear of 3", yard.clear(3), 1);

    told.says("Returns how many there were.");
    due.same("clear of 3 corners", yard.clear(1), 3);
    due.same("clear again", yard.clear(1), 0);
    due.same("clear of 16 corners", sixteen().clear(0), 16);
    due.same("clear of a new polygon", new HullyardSurveys().clear(0), 0);

    told.says("Throws `IllegalArgumentException` if polygon is out of range");
    for (int polygon : NO_POLYGONS) {
      due.raises("clear " + polygon, BAD, () -> yard.clear(polygon));
    }
    told.end();
  }

  private void isSimple() {
    told.promise(24);
    told.says("Tells whether a polygon is simple.");
    HullyardSurveys yard = Make.polygon(Make.NOTCHED);
    due.same("isSimple of what is notched", yard.isSimple(0), true);
    yard.add(0, 4, 2);
    due.same("isSimple with a corner more", yard.isSimple(0), false);
    due.same("isSimple of 16 corners", sixteen().isSimple(0), true);

    told.says("- `polygon`: 0 to 3");
    Make.corners(yard, 3, 0, 0, 4, 0, 0, 4);
    due.same("isSimple of 0", yard.isSimple(0), false);
    due.same("isSimple of 3", yard.isSimple(3), true);

    told.says("Returns whether it is; false with fewer than 3 corners.");
    simple("no corners", false);
    simple("1 corner", false, 1, 1);
    simple("2 corners", false, 1, 1, 5, 2);
    simple("3 corners", true, 1, 1, 5, 2, 0, 9);
    simple("3 corners to the right", true, 1, 1, 0, 9, 5, 2);

    told.says("Throws `IllegalArgumentException` if polygon is out of range");
    for (int polygon : NO_POLYGONS) {
      due.raises("isSimple of " + polygon, BAD, () -> yard.isSimple(polygon));
    }
    told.end();
  }

  private void polygonArea() {
    told.promise(25);
    told.says("Returns the doubled area of a polygon.");
    area("a comb", 76, Make.COMB);
    area("16 corners", Make.SIXTEEN_AREA, Make.SIXTEEN);

    told.says("- `polygon`: 0 to 3");
    HullyardSurveys yard = Make.polygon(0, 0, 4, 0, 4, 4);
    Make.corners(yard, 3, 0, 0, 1, 0, 0, 1);
    due.same("polygonArea of 0", yard.polygonArea(0), 16);
    due.same("polygonArea of 3", yard.polygonArea(3), 1);

    told.says("Returns the doubled area, with its sign; 0 without corners.");
    int[] round = {-200, -200, 200, -200, 200, 200, -200, 200};
    int[] back = {-200, 200, 200, 200, 200, -200, -200, -200};
    area("all the grid", 320000, round);
    area("all the grid, to the right", -320000, back);
    HullyardSurveys four = Make.polygon(round);
    HullyardSurveys fourBack = Make.polygon(back);
    for (int i = 0; i < 3; i++) {
      Make.corners(four, 0, round);
      Make.corners(fourBack, 0, back);
    }
    due.same("polygonArea, four times round", four.polygonArea(0), 1280000);
    due.same("polygonArea, four times back", fourBack.polygonArea(0), -1280000);
    area("no corners", 0);
    area("one corner", 0, 3, 5);
    area("two corners", 0, 3, 5, 7, 1);

    told.says("Throws `IllegalArgumentException` if polygon is out of range");
    for (int polygon : NO_POLYGONS) {
      due.raises("polygonArea of " + polygon, BAD, () -> yard.polygonArea(polygon));
    }
    told.end();
  }

  /** Polygons that are not simple: without corners, with too few, that cross. */
  private static HullyardSurveys notSimple() {
    HullyardSurveys yard = Make.polygon(Make.CROSSED);
    Make.corners(yard, 1, 0, 0, 4, 4);
    Make.corners(yard, 2, 0, 0, 2, 2, 4, 4);
    Make.points(yard, 0, 1, 1);
    return yard;
  }

  private void polygonEdge() {
    told.promise(26);
    told.says("Counts the places on the edge of a simple polygon.", "Returns how many there are.");
    due.same("of a square", Make.polygon(0, 0, 4, 0, 4, 4, 0, 4).polygonEdge(0), 16);
    due.same("of a square to the right", Make.polygon(0, 0, 0, 4, 4, 4, 4, 0).polygonEdge(0), 16);
    due.same("of what is notched", Make.polygon(Make.NOTCHED).polygonEdge(0), 14);
    due.same("of a comb", Make.polygon(Make.COMB).polygonEdge(0), 42);
    due.same("of flat corners",
        Make.polygon(0, 0, 1, 0, 4, 0, 4, 3, 4, 4, 0, 4).polygonEdge(0), 16);
    due.same("the least", Make.polygon(0, 0, 1, 0, 0, 1).polygonEdge(0), 3);
    due.same("of all the grid",
        Make.polygon(-200, -200, 200, -200, 200, 200, -200, 200).polygonEdge(0), 1600);

    told.says("- `polygon`: 0 to 3");
    HullyardSurveys yard = Make.polygon(0, 0, 1, 0, 0, 1);
    Make.corners(yard, 3, 0, 0, 2, 0, 0, 2);
    due.same("polygonEdge of 0", yard.polygonEdge(0), 3);
    due.same("polygonEdge of 3", yard.polygonEdge(3), 6);

    told.says("Throws `IllegalArgumentException` if polygon is out of range");
    for (int polygon : NO_POLYGONS) {
      due.raises("polygonEdge of " + polygon, BAD, () -> yard.polygonEdge(polygon));
    }
    told.says("Throws `IllegalStateException` if it is not simple");
    HullyardSurveys few = notSimple();
    for (int polygon = 0; polygon < 4; polygon++) {
      int asked = polygon;
      due.raises("polygonEdge, not simple, " + asked, STATE, () -> few.polygonEdge(asked));
    }
    told.end();
  }

  private void polygonInner() {
    told.promise(27);
    told.says("Counts the places inside of a simple polygon.", "Returns how many there are.");
    due.same("of a square", Make.polygon(0, 0, 4, 0, 4, 4, 0, 4).polygonInner(0), 9);
    due.same("of a square to the right", Make.polygon(0, 0, 0, 4, 4, 4, 4, 0).polygonInner(0), 9);
    due.same("of what is notched", Make.polygon(Make.NOTCHED).polygonInner(0), 4);
    due.same("of a comb", Make.polygon(Make.COMB).polygonInner(0), 18);
    due.same("of a slant triangle", Make.polygon(0, 0, 2, 1, 1, 2).polygonInner(0), 1);
    due.same("none", Make.polygon(0, 0, 1, 0, 0, 1).polygonInner(0), 0);
    due.same("of all the grid",
        Make.polygon(-200, -200, 200, -200, 200, 200, -200, 200).polygonInner(0), 399 * 399);

    told.says("- `polygon`: 0 to 3");
    HullyardSurveys yard = Make.polygon(0, 0, 1, 0, 0, 1);
    Make.corners(yard, 3, 0, 0, 3, 0, 0, 3);
    due.same("polygonInner of 0", yard.polygonInner(0), 0);
    due.same("polygonInner of 3", yard.polygonInner(3), 1);

    told.says("Throws `IllegalArgumentException` if polygon is out of range");
    for (int polygon : NO_POLYGONS) {
      due.raises("polygonInner of " + polygon, BAD, () -> yard.polygonInner(polygon));
    }
    told.says("Throws `IllegalStateException` if it is not simple");
    HullyardSurveys few = notSimple();
    for (int polygon = 0; polygon < 4; polygon++) {
      int asked = polygon;
      due.raises("polygonInner, not simple, " + asked, STATE, () -> few.polygonInner(asked));
    }
    told.end();
  }

  private void polygonLies() {
    told.promise(28);
    told.says(
        "Tells where a place lies, beside a simple polygon.",
        "Returns 1 inside, 0 on the edge, -1 outside.");
    HullyardSurveys yard = Make.polygon(Make.COMB);
    due.same("in the last tooth", yard.polygonLies(0, 9, 4), 1);
    due.same("at the height of the tops", yard.polygonLies(0, 3, 5), -1);
    due.same("on a top", yard.polygonLies(0, 5, 5), 0);
    due.same("at a corner", yard.polygonLies(0, 8, 2), 0);
    due.same("inside, at the height of corners", yard.polygonLies(0, 1, 2), 1);
    due.same("left, at the height of corners", yard.polygonLies(0, -1, 2), -1);
    due.same("right, at the height of corners", yard.polygonLies(0, 11, 2), -1);
    due.same("on a side", yard.polygonLies(0, 10, 1), 0);
    HullyardSurveys notched = Make.polygon(Make.NOTCHED);
    due.same("in the notch", notched.polygonLies(0, 2, 2), -1);
    due.same("at its bottom", notched.polygonLies(0, 2, 1), 0);
    due.same("left of it", notched.polygonLies(0, 1, 1), 1);
    HullyardSurveys right = Make.polygon(0, 0, 0, 4, 4, 0);
    due.same("inside, to the right", right.polygonLies(0, 1, 1), 1);
    due.same("on the edge, to the right", right.polygonLies(0, 2, 2), 0);
    due.same("outside, to the right", right.polygonLies(0, 3, 2), -1);

    told.says("- `polygon`: 0 to 3");
    Make.corners(yard, 3, 0, 0, 2, 0, 0, 2);
    due.same("polygonLies of 0", yard.polygonLies(0, 1, 1), 1);
    due.same("polygonLies of 3", yard.polygonLies(3, 1, 1), 0);

    int[] far = {LEAST, MOST, LEAST + 1, 1 << 30, (1 << 30) + 1, -(1 << 30) + 1, 201, -201};
    HullyardSurveys great = Make.polygon(-200, -200, 200, -199, 199, 200, -198, 199);
    HullyardSurveys square = Make.polygon(0, 0, 4, 0, 4, 4, 0, 4);
    told.says("- `x`: any number");
    for (int x : far) {
      due.same("lies at " + x + ", 0", great.polygonLies(0, x, 0), -1);
      due.same("lies at " + x + ", 1 of a square", square.polygonLies(0, x, 1), -1);
      due.same("lies at " + x + ", 4 of a square", square.polygonLies(0, x, 4), -1);
    }
    told.says("- `y`: any number");
    for (int y : far) {
      due.same("lies at 0, " + y, great.polygonLies(0, 0, y), -1);
      due.same("lies at 1, " + y + " of a square", square.polygonLies(0, 1, y), -1);
      due.same("lies at 4, " + y + " of a square", square.polygonLies(0, 4, y), -1);
      for (int x : far) {
        due.same("lies at " + x + ", " + y, great.polygonLies(0, x, y), -1);
      }
    }

    told.says("Throws `IllegalArgumentException` if polygon is out of range");
    for (int polygon : NO_POLYGONS) {
      due.raises("polygonLies of " + polygon, BAD, () -> yard.polygonLies(polygon, 1, 1));
    }
    told.says("Throws `IllegalStateException` if it is not simple");
    HullyardSurveys few = notSimple();
    for (int polygon = 0; polygon < 4; polygon++) {
      int asked = polygon;
      due.raises("inside, not simple, " + asked, STATE, () -> few.polygonLies(asked, 1, 1));
      due.raises("far, not simple, " + asked, STATE, () -> few.polygonLies(asked, MOST, LEAST));
    }
    told.end();
  }

  private void holds() {
    told.promise(29);
    told.says(
        "Counts the points of a heap that lie inside of a simple polygon, or on its edge.",
        "Returns how many there are.");
    HullyardSurveys yard = Make.polygon(Make.NOTCHED);
    Make.points(yard, 1, 2, 2, 2, 1, 1, 1, 1, 1, 0, 4, 5, 5, 3, 0);
    Make.points(yard, 0, 1, 1);
    due.same("holds of heap 1", yard.holds(0, 1), 5);
    due.same("holds of an empty heap", yard.holds(0, 2), 0);
    yard.drop(2);
    due.same("holds after a drop", yard.holds(0, 1), 4);
    HullyardSurveys all = Make.polygon(-200, -200, 200, -200, 200, 200, -200, 200);
    for (int i = 0; i < 60; i++) {
      all.point(2, 200, i);
    }
    due.same("holds of 60", all.holds(0, 2), 60);

    told.says("- `polygon`: 0 to 3");
    Make.corners(yard, 3, 1, 0, 9, 0, 9, 9);
    due.same("holds of polygon 3", yard.holds(3, 1), 2);
    due.same("holds of polygon 0", yard.holds(0, 0), 1);
    told.says("- `heap`: 0 to 2");
    Make.points(yard, 2, 1, 1, 9, 8);
    due.same("holds of heap 0", yard.holds(0, 0), 1);
    due.same("holds of heap 2", yard.holds(3, 2), 1);

    told.says("Throws `IllegalArgumentException` if polygon or heap is out of range");
    HullyardSurveys few = notSimple();
    for (int polygon : NO_POLYGONS) {
      due.raises("holds of polygon " + polygon, BAD, () -> yard.holds(polygon, 0));
      due.raises("holds of polygon " + polygon + ", no heap", BAD, () -> yard.holds(polygon, 3));
    }
    for (int heap : NO_HEAPS) {
      due.raises("holds of heap " + heap, BAD, () -> yard.holds(0, heap));
      due.raises("holds of heap " + heap + ", not simple", BAD, () -> few.holds(0, heap));
    }
    told.says("Throws `IllegalStateException` if it is not simple");
    for (int polygon = 0; polygon < 4; polygon++) {
      int asked = polygon;
      due.raises("holds, not simple, " + asked, STATE, () -> few.holds(asked, 0));
      due.raises("holds of none, not simple, " + asked, STATE, () -> few.holds(asked, 1));
    }
    told.end();
  }
}
