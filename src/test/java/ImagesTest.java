import java.util.NoSuchElementException;

/** Promises 44, 45 and 49, sentence by sentence, and how long an object is good for. */
public final class ImagesTest {
  private static final Class<IllegalStateException> STATE = IllegalStateException.class;
  private static final Class<IndexOutOfBoundsException> NONE = IndexOutOfBoundsException.class;
  private static final Class<NoSuchElementException> EMPTY = NoSuchElementException.class;

  private final Due due = new Due();
  private final Told told = new Told(due);

  private ImagesTest() throws java.io.IOException {
  }

  public static void main(String[] args) throws java.io.IOException {
    ImagesTest test = new ImagesTest();
    test.image();
    test.imageOfNothing();
    test.restore();
    test.restorePoints();
    test.restoreRefuses();
    test.errors();
    test.manyCalls();
    test.due.end();
  }

  private static HullyardSurveys filled() {
    HullyardSurveys yard = Make.heap(0, 0, 4, 0, 4, 4);
    Make.points(yard, 2, 9, 9);
    Make.corners(yard, 0, 0, 0, 4, 0, 4, 4);
    Make.corners(yard, 3, 0, 0, 6, 0, 6, 6, 0, 6);
    yard.line(0, 0, 4, 4);
    yard.line(4, 0, 0, 4);
    return yard;
  }

  /** All points, corners and lines that there can be. */
  private static HullyardSurveys full() {
    HullyardSurveys yard = Make.polygon(Make.SIXTEEN);
    for (int i = 0; i < 60; i++) {
      yard.point(i % 3, i, -i);
    }
    for (int polygon = 1; polygon < 4; polygon++) {
      Make.corners(yard, polygon, Make.SIXTEEN);
    }
    for (int i = 0; i < 20; i++) {
      yard.line(-200, i, 200, -i);
    }
    return yard;
  }

  private void image() {
    told.promise(44);
    told.says("Takes an image of points, polygons and lines,");
    HullyardSurveys yard = filled();
    yard.image();
    yard.point(1, 7, 7);
    yard.drop(0);
    yard.clear(3);
    yard.add(0, 0, 4);
    yard.add(1, 5, 5);
    yard.clearLines();
    yard.line(9, 9, 9, 9);
    yard.restore();
    due.same("count of 0", yard.count(0), 3);
    due.same("count of 1", yard.count(1), 0);
    due.same("the first of 0", yard.sorted(0, 0), 0);
    due.same("x of 3", yard.pointOf(3, 1), 9);
    due.same("area of polygon 0", yard.polygonArea(0), 16);
    due.same("triangle of polygon 3", yard.triangleAt(3, 0), 30001);
    due.same("corners of polygon 1", yard.clear(1), 0);
    due.same("corners of polygon 0", yard.clear(0), 3);
    due.same("crossing of lines", yard.crossingAt(0), 1);
    due.same("lines", yard.clearLines(), 2);
    HullyardSurveys all = full();
    due.same("image of all that there can be", all.image(), 60);
    for (int i = 0; i < 60; i++) {
      all.drop(i);
    }
    all.clear(0);
    all.clear(3);
    all.clearLines();
    due.same("restore of all that there can be", all.restore(), 60);
    due.same("its heap 2", all.count(2), 20);
    due.same("its point 59", all.pointOf(59, 2), -59);
    due.same("its polygon 3", all.triangles(3), 14);
    due.same("its crossings", all.crossings(), 190);
    due.raises("a 61st point", STATE, () -> all.point(0, 0, 0));
    due.raises("a 17th corner", STATE, () -> all.add(0, 0, 0));
    due.raises("a 21st line", STATE, () -> all.line(0, 0, 0, 0));

    told.says("in place of one that was taken.");
    HullyardSurveys twice = Make.heap(1, 1);
    twice.image();
    Make.points(twice, 0, 2, 2, 3, 3);
    twice.image();
    twice.drop(0);
    due.same("restore of the second image", twice.restore(), 3);
    due.same("count of the second image", twice.count(0), 3);
    twice.drop(0);
    twice.drop(1);
    twice.image();
    twice.restore();
    due.same("count of the third image", twice.count(0), 1);
  }

  private void imageOfNothing() {
    told.says("Returns the number of points that have come.");
    HullyardSurveys yard = Make.heap(0, 0, 1, 1, 2, 2);
    Make.points(yard, 1, 2, 2);
    due.same("image of 4 points", yard.image(), 4);
    yard.drop(1);
    yard.drop(3);
    due.same("image with dropped points", yard.image(), 4);
    HullyardSurveys none = new HullyardSurveys();
    due.same("image of none", none.image(), 0);
    Make.points(none, 0, 1, 1);
    none.add(0, 1, 1);
    none.line(0, 0, 1, 1);
    due.same("restore of none", none.restore(), 0);
    due.same("its count", none.count(0), 0);
    due.same("its corners", none.clear(0), 0);
    due.same("its lines", none.clearLines(), 0);
    told.end();
  }

  private void restore() {
    told.promise(45);
    told.says("Makes points, polygons and lines what they were when the image was taken;");
    HullyardSurveys yard = filled();
    yard.image();
    for (int polygon = 0; polygon < 4; polygon++) {
      yard.clear(polygon);
      yard.add(polygon, 1, 2);
    }
    yard.restore();
    due.same("polygon 0 again", yard.polygonArea(0), 16);
    due.same("polygon 3 again", yard.polygonArea(3), 72);
    due.same("polygon 1 again", yard.clear(1), 0);
    due.same("a line more", yard.line(0, 2, 4, 2), 2);
    due.same("a corner more", yard.add(0, 0, 4), 4);

    told.says("the figure and the image stay.");
    yard.hull(0);
    yard.image();
    yard.hullOf(3);
    yard.restore();
    due.sameText("the figure stays", Make.figure(yard), "0,0 6,0 6,6 0,6");
    yard.drop(0);
    due.same("the image stays", yard.restore(), 4);
    due.same("its count", yard.count(0), 3);
    yard.add(0, 9, 9);
    yard.point(0, 5, 5);
    yard.line(1, 1, 2, 2);
    yard.restore();
    due.same("it is not the yard: points", yard.image(), 4);
    due.same("it is not the yard: corners", yard.clear(0), 4);
    due.same("it is not the yard: lines", yard.clearLines(), 3);
    due.same("the image is as it was taken", yard.restore(), 4);
    due.same("with its corners", yard.clear(0), 4);
  }

  private void restorePoints() {
    told.says("Returns the number of points that had come then.");
    HullyardSurveys yard = Make.heap(0, 0, 1, 1, 2, 2);
    yard.drop(1);
    yard.image();
    yard.drop(2);
    due.same("a point after the image", yard.point(1, 5, 5), 3);
    due.same("restore", yard.restore(), 3);
    due.same("a dropped point is there again", yard.pointOf(2, 1), 2);
    due.raises("a point dropped before is not", NONE, () -> yard.pointOf(1, 0));
    due.raises("a later point is not", NONE, () -> yard.pointOf(3, 0));
    due.same("count of its heap", yard.count(1), 0);
    due.same("the next number", yard.point(2, 8, 8), 3);
    HullyardSurveys many = new HullyardSurveys();
    for (int i = 0; i < 59; i++) {
      many.point(0, i, 0);
    }
    many.image();
    many.point(0, 0, 0);
    due.raises("the 61st point", STATE, () -> many.point(0, 0, 0));
    due.same("restore of 59", many.restore(), 59);
    due.same("the last one comes again", many.point(1, 0, 0), 59);
    due.raises("the 61st point again", STATE, () -> many.point(0, 0, 0));
  }

  private void restoreRefuses() {
    told.says("Throws `NoSuchElementException` if no image was taken");
    HullyardSurveys yard = filled();
    due.raises("restore without an image", EMPTY, yard::restore);
    due.same("count after it", yard.count(0), 3);
    due.same("corners after it", yard.clear(3), 4);
    due.same("lines after it", yard.clearLines(), 2);
    due.raises("restore of a new yard", EMPTY, () -> new HullyardSurveys().restore());
    told.end();
  }

  private void errors() {
    told.promise(49);
    told.says(
        "Holds what is found against the theorem: heaps of which a point lies outside of the hull;");
    due.same("errors of a new yard", new HullyardSurveys().errors(), 0);
    HullyardSurveys heaps = Make.heap(0, 0, 4, 0, 4, 4, 0, 4, 2, 2, 2, 0, 4, 0);
    Make.points(heaps, 1, 5, 5);
    Make.points(heaps, 2, 1, 1, 3, 3, 2, 2);
    due.same("errors of a square, a place and a stretch", heaps.errors(), 0);
    HullyardSurveys round = new HullyardSurveys();
    Make.points(round, 0, Make.sixtyCorners());
    due.same("errors of 60 corners", round.errors(), 0);

    told.says(
        "simple polygons for which the places inside, counted row by row, and those on the edge are"
            + " not as many as the area tells;");
    HullyardSurveys yard = Make.polygon(Make.COMB);
    Make.corners(yard, 1, Make.NOTCHED);
    Make.corners(yard, 2, -200, -200, 0, -199, 200, -200, 200, 200, 0, -198, -200, 200);
    Make.corners(yard, 3, 0, 0, 1, 0, 0, 1);
    due.same("errors of four polygons", yard.errors(), 0);
    HullyardSurveys great = Make.polygon(-200, -200, 200, -200, 200, 200, -200, 200);
    Make.corners(great, 1, -200, 200, 200, 200, 200, -200, -200, -200);
    Make.corners(great, 2, 0, 0, 2, 0, 4, 0, 4, 4, 2, 4, 0, 4, 0, 2);
    Make.corners(great, 3, -200, -200, 200, 199, 199, 199);
    due.same("errors of great polygons", great.errors(), 0);
    int[] down = Make.COMB.clone();
    for (int i = 1; i < down.length; i += 2) {
      down[i] = -down[i];
    }
    due.same("errors of a comb with teeth down", Make.polygon(down).errors(), 0);

    told.says("simple polygons whose triangles have not together its area.");
    due.same("errors of 16 corners", Make.polygon(Make.SIXTEEN).errors(), 0);
    due.same("errors of what crosses", Make.polygon(Make.CROSSED).errors(), 0);
    due.same("errors of three corners on a line", Make.polygon(0, 0, 2, 0, 4, 0).errors(), 0);

    told.says("Returns how many there are of all three sorts; always 0.");
    HullyardSurveys all = full();
    all.sum(0, 1);
    int checksum = all.checksum();
    due.same("errors of all that there can be", all.errors(), 0);
    due.same("the figure after it", all.checksum(), checksum);
    due.same("count after it", all.count(0), 20);
    due.same("triangles after it", all.triangles(0), 14);
    told.end();
  }

  private void manyCalls() {
    told.part("What it is");
    told.says(
        "A yard of points on a grid: hulls and their layers, hulls of two heaps, sums of hulls,"
            + " polygons with their areas, inner points and triangles, nearest and farthest pairs,"
            + " crossings of lines, widths and boxes, all in whole numbers.");
    due.same("a hull", Make.heap(0, 0, 4, 0, 0, 4).hull(0), 3);

    // Of later calls nothing can be asked.
    told.says(
        "An object is used for at most 512 calls after it has been made;",
        "what later calls answer is free.");
    HullyardSurveys yard = filled();
    // 4 points, 7 corners, 2 lines: 13 calls so far.
    for (int call = 14; call <= 511; call += 2) {
      int corners = call % 4 == 0 ? yard.hull(0) : yard.hullOf(3);
      due.same("call " + call, corners, call % 4 == 0 ? 3 : 4);
      due.same("call " + (call + 1), yard.area(), call % 4 == 0 ? 16 : 72);
    }
    due.same("call 512", yard.image(), 4);
    told.end();
  }
}
