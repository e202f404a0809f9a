/** Promises 30 to 33, sentence by sentence. */
public final class PartingTest {
  private static final Class<IllegalArgumentException> BAD = IllegalArgumentException.class;
  private static final Class<IllegalStateException> STATE = IllegalStateException.class;
  private static final Class<IndexOutOfBoundsException> NONE = IndexOutOfBoundsException.class;

  private static final int LEAST = Integer.MIN_VALUE;
  private static final int MOST = Integer.MAX_VALUE;
  private static final int[] NO_POLYGONS = {-1, 4, LEAST, MOST};

  private final Due due = new Due();
  private final Told told = new Told(due);

  private PartingTest() throws java.io.IOException {
  }

  public static void main(String[] args) throws java.io.IOException {
    PartingTest test = new PartingTest();
    test.triangles();
    test.triangleAt();
    test.triangleAtRefuses();
    test.sees();
    test.seesRefuses();
    test.view();
    test.viewRefuses();
    test.due.end();
  }

  /** What is notched as polygon 0, what crosses as 1, two corners as 2, none as 3. */
  private static HullyardSurveys notched() {
    HullyardSurveys yard = Make.polygon(Make.NOTCHED);
    Make.corners(yard, 1, Make.CROSSED);
    Make.corners(yard, 2, 0, 0, 4, 4);
    return yard;
  }

  private void triangles() {
    told.promise(30);
    told.says("Parts a simple polygon (section 3).", "Returns the number of triangles.");
    due.same("of a triangle", Make.polygon(0, 0, 4, 0, 0, 4).triangles(0), 1);
    due.same("of a square", Make.polygon(0, 0, 4, 0, 4, 4, 0, 4).triangles(0), 2);
    due.same("of what is notched", notched().triangles(0), 3);
    due.same("of 16 corners", Make.polygon(Make.SIXTEEN).triangles(0), 14);
    HullyardSurveys yard = notched();
    yard.triangles(0);
    due.same("the polygon is whole behind it", yard.polygonArea(0), 20);
    due.same("its corners are there behind it", yard.clear(0), 5);

    told.says("- `polygon`: 0 to 3");
    HullyardSurveys two = Make.polygon(0, 0, 4, 0, 0, 4);
    Make.corners(two, 3, 0, 0, 4, 0, 4, 4, 0, 4);
    due.same("triangles of 0", two.triangles(0), 1);
    due.same("triangles of 3", two.triangles(3), 2);

    told.says("Throws `IllegalArgumentException` if polygon is out of range");
    for (int polygon : NO_POLYGONS) {
      due.raises("triangles of " + polygon, BAD, () -> two.triangles(polygon));
    }
    told.says("Throws `IllegalStateException` if it is not simple");
    HullyardSurveys few = notched();
    for (int polygon = 1; polygon < 4; polygon++) {
      int asked = polygon;
      due.raises("triangles of " + asked, STATE, () -> few.triangles(asked));
    }
    told.end();
  }

  private void triangleAt() {
    told.promise(31);
    told.says("Returns a triangle of a simple polygon.");
    HullyardSurveys yard = notched();
    due.same("triangle 1", yard.triangleAt(0, 1), 103);

    told.says("- `polygon`: 0 to 3");
    Make.corners(yard, 3, 0, 0, 4, 0, 4, 4, 0, 4);
    due.same("triangle of 0", yard.triangleAt(0, 0), 10203);
    due.same("triangle of 3", yard.triangleAt(3, 0), 30001);

    told.says("- `triangle`: from 0, in the order in which they are made");
    int[] want = {10203, 103, 304};
    for (int triangle = 0; triangle < 3; triangle++) {
      due.same("triangle " + triangle, yard.triangleAt(0, triangle), want[triangle]);
    }
    due.same("triangle 0 again", yard.triangleAt(0, 0), 10203);

    told.says(
        "Returns 10000 times the corner ahead, plus 100 times the ear (of the last one the second"
            + " corner that is left), plus the corner behind;");
    HullyardSurveys sixteen = Make.polygon(Make.SIXTEEN);
    due.same("the first triangle of 16 corners", sixteen.triangleAt(0, 0), 150001);
    due.same("the next one", sixteen.triangleAt(0, 1), 150102);
    due.same("the last one", sixteen.triangleAt(0, 13), 131415);

    told.says("the last one begins with the least corner that is left.");
    due.same("the last one of a triangle", Make.polygon(0, 0, 4, 0, 0, 4).triangleAt(0, 0), 102);
    due.same("the last one of a square", yard.triangleAt(3, 1), 10203);
    due.same("the last one of what is notched", yard.triangleAt(0, 2), 304);
    due.same("the last one with corners 0, 2 and 3",
        Make.polygon(4, 1, 8, 0, 4, 9, 0, 0).triangleAt(0, 1), 203);
  }

  private void triangleAtRefuses() {
    told.says("Throws `IllegalArgumentException` if polygon is out of range");
    HullyardSurveys yard = notched();
    for (int polygon : NO_POLYGONS) {
      due.raises("triangle of " + polygon, BAD, () -> yard.triangleAt(polygon, 0));
      due.raises("no triangle of " + polygon, BAD, () -> yard.triangleAt(polygon, -1));
    }
    told.says("Throws `IllegalStateException` if it is not simple");
    for (int polygon = 1; polygon < 4; polygon++) {
      int asked = polygon;
      due.raises("triangle of " + asked, STATE, () -> yard.triangleAt(asked, 0));
      due.raises("no triangle of " + asked, STATE, () -> yard.triangleAt(asked, -1));
      due.raises("no such triangle of " + asked, STATE, () -> yard.triangleAt(asked, 99));
    }
    told.says("Throws `IndexOutOfBoundsException` if there is no such triangle");
    for (int triangle : new int[] {-1, 3, 4, 14, 16, LEAST, MOST}) {
      due.raises("triangle " + triangle, NONE, () -> yard.triangleAt(0, triangle));
    }
    HullyardSurveys sixteen = Make.polygon(Make.SIXTEEN);
    due.raises("triangle 14 of 14", NONE, () -> sixteen.triangleAt(0, 14));
    due.raises("triangle 1 of 1", NONE, () -> Make.polygon(0, 0, 4, 0, 0, 4).triangleAt(0, 1));
    told.end();
  }

  private void sees() {
    told.promise(32);
    told.says("Tells whether a corner of a simple polygon sees another one.");
    HullyardSurveys yard = notched();
    due.same("sees past the notch", yard.sees(0, 0, 2), false);
    due.same("sees past the notch from there", yard.sees(0, 2, 0), false);
    due.same("sees the bottom of the notch", yard.sees(0, 1, 3), true);

    told.says("- `polygon`: 0 to 3");
    Make.corners(yard, 3, 0, 0, 4, 0, 4, 4, 0, 4);
    due.same("sees in 3", yard.sees(3, 0, 2), true);
    due.same("sees in 0", yard.sees(0, 0, 2), false);

    told.says("- `corner`: number of a corner, from 0");
    HullyardSurveys sixteen = Make.polygon(Make.SIXTEEN);
    due.same("corner 0 sees", sixteen.sees(0, 0, 8), true);
    due.same("corner 15 sees", sixteen.sees(0, 15, 8), true);
    told.says("- `other`: number of a corner, perhaps the same");
    due.same("sees corner 0", sixteen.sees(0, 8, 0), true);
    due.same("sees corner 15", sixteen.sees(0, 8, 15), true);

    told.says("Returns whether it does; a corner sees itself and its neighbours.");
    HullyardSurveys comb = Make.polygon(Make.COMB);
    for (int corner = 0; corner < 12; corner++) {
      int next = (corner + 1) % 12;
      due.same("sees itself, " + corner, comb.sees(0, corner, corner), true);
      due.same("sees the one behind, " + corner, comb.sees(0, corner, next), true);
      due.same("sees the one ahead, " + next, comb.sees(0, next, corner), true);
    }
  }

  private void seesRefuses() {
    HullyardSurveys yard = notched();
    told.says("Throws `IllegalArgumentException` if polygon is out of range");
    for (int polygon : NO_POLYGONS) {
      due.raises("sees in " + polygon, BAD, () -> yard.sees(polygon, 0, 0));
      due.raises("no corner sees in " + polygon, BAD, () -> yard.sees(polygon, -1, 0));
      due.raises("sees no corner in " + polygon, BAD, () -> yard.sees(polygon, 0, 16));
    }
    told.says("Throws `IndexOutOfBoundsException` if there is no such corner");
    for (int corner : new int[] {-1, 5, 15, 16, LEAST, MOST}) {
      due.raises("sees of " + corner, NONE, () -> yard.sees(0, corner, 0));
      due.raises("sees other " + corner, NONE, () -> yard.sees(0, 0, corner));
      due.raises("sees itself " + corner, NONE, () -> yard.sees(0, corner, corner));
      due.raises("sees of " + corner + ", not simple", NONE, () -> yard.sees(1, corner, 0));
      due.raises("sees other " + corner + ", not simple", NONE, () -> yard.sees(1, 0, corner));
    }
    due.raises("sees corner 16 of 16", NONE, () -> Make.polygon(Make.SIXTEEN).sees(0, 0, 16));
    due.raises("corner 2 of two sees", NONE, () -> yard.sees(2, 2, 0));
    due.raises("sees without corners", NONE, () -> yard.sees(3, 0, 0));
    told.says("Throws `IllegalStateException` if it is not simple");
    due.raises("sees, what crosses", STATE, () -> yard.sees(1, 0, 3));
    due.raises("sees itself, what crosses", STATE, () -> yard.sees(1, 2, 2));
    due.raises("sees, two corners", STATE, () -> yard.sees(2, 0, 1));
    told.end();
  }

  private void view() {
    told.promise(33);
    told.says(
        "Counts the corners that a corner of a simple polygon sees, without itself.",
        "Returns how many there are.");
    int[] want = {3, 3, 2, 4, 2};
    HullyardSurveys yard = notched();
    for (int corner = 0; corner < want.length; corner++) {
      due.same("view of " + corner, yard.view(0, corner), want[corner]);
    }
    due.same("view in a triangle", Make.polygon(0, 0, 4, 0, 0, 4).view(0, 1), 2);
    due.same("view in a square", Make.polygon(0, 0, 4, 0, 4, 4, 0, 4).view(0, 3), 3);

    told.says("- `polygon`: 0 to 3");
    Make.corners(yard, 3, 0, 0, 4, 0, 4, 4, 0, 4);
    due.same("view in 3", yard.view(3, 2), 3);
    due.same("view in 0", yard.view(0, 2), 2);
    told.says("- `corner`: number of a corner, from 0");
    HullyardSurveys sixteen = Make.polygon(Make.SIXTEEN);
    due.same("view of corner 0 of 16", sixteen.view(0, 0), 15);
    due.same("view of corner 15 of 16", sixteen.view(0, 15), 15);
  }

  private void viewRefuses() {
    HullyardSurveys yard = notched();
    told.says("Throws `IllegalArgumentException` if polygon is out of range");
    for (int polygon : NO_POLYGONS) {
      due.raises("view in " + polygon, BAD, () -> yard.view(polygon, 0));
      due.raises("view of no corner in " + polygon, BAD, () -> yard.view(polygon, -1));
    }
    told.says("Throws `IndexOutOfBoundsException` if there is no such corner");
    for (int corner : new int[] {-1, 5, 15, 16, LEAST, MOST}) {
      due.raises("view of " + corner, NONE, () -> yard.view(0, corner));
      due.raises("view of " + corner + ", not simple", NONE, () -> yard.view(1, corner));
    }
    due.raises("view of corner 16 of 16", NONE, () -> Make.polygon(Make.SIXTEEN).view(0, 16));
    due.raises("view without corners", NONE, () -> yard.view(3, 0));
    told.says("Throws `IllegalStateException` if it is not simple");
    due.raises("view, what crosses", STATE, () -> yard.view(1, 3));
    due.raises("view, two corners", STATE, () -> yard.view(2, 1));
    told.end();
  }
}
