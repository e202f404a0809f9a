import java.util.NoSuchElementException;

/** Section 5 of the terms, and promises 39 to 43 and 47, sentence by sentence. */
public final class PairsTest {
  private static final Class<IllegalArgumentException> BAD = IllegalArgumentException.class;
  private static final Class<NoSuchElementException> EMPTY = NoSuchElementException.class;

  private static final int LEAST = Integer.MIN_VALUE;
  private static final int MOST = Integer.MAX_VALUE;
  private static final int[] NO_HEAPS = {-1, 3, LEAST, MOST};
  /** Four corners of a box, a point inside, and one on its lower side. */
  private static final int[] SIX = {0, 0, 4, 0, 4, 3, 0, 3, 2, 1, 2, 0};

  private final Due due = new Due();
  private final Told told = new Told(due);

  private PairsTest() throws java.io.IOException {
  }

  public static void main(String[] args) throws java.io.IOException {
    PairsTest test = new PairsTest();
    test.whatPairsAre();
    test.whatAWidthIs();
    test.whatBoxesAre();
    test.pair();
    test.distance();
    test.box();
    test.boxRefuses();
    test.fence();
    test.fenceRefuses();
    test.apart();
    test.apartRefuses();
    test.meanFar();
    test.due.end();
  }

  /** All points that there can be, in heap 0, three steps from each to the next one. */
  private static HullyardSurveys sixty() {
    HullyardSurveys yard = new HullyardSurveys();
    for (int i = 0; i < 60; i++) {
      yard.point(0, 3 * i, 0);
    }
    return yard;
  }

  private void whatPairsAre() {
    told.section(5, "\n6. Exceptions");
    told.says("The distance of two points is told squared.");
    due.same("a slant distance", Make.heap(0, 0, 3, 4).distance(0, false), 25);
    due.same("the greatest distance", Make.heap(-200, -200, 200, 200).distance(0, true), 320000);
    due.same("no distance", Make.heap(5, 5, 5, 5).distance(0, true), 0);

    told.says("The nearest pair of a heap is that of the least distance;");
    due.same("the nearest pair", Make.heap(0, 0, 9, 0, 9, 1, 0, 9).pair(0, false), 102);
    due.same("the nearest pair at one place",
        Make.heap(0, 0, 9, 0, 0, 1, 9, 0).pair(0, false), 103);

    told.says(
        "of several the one whose first point has the least number, then whose second one has (the"
            + " first one has the lesser number).");
    due.same("the nearest of several", Make.heap(9, 9, 0, 0, 1, 0, 9, 8).pair(0, false), 3);
    due.same("the nearest of several with a point",
        Make.heap(0, 0, 1, 0, 0, 1, -1, 0).pair(0, false), 1);
    due.same("the lesser number first", Make.heap(5, 0, 0, 0, 4, 0).pair(0, false), 2);

    told.says("The farthest pair likewise.");
    due.same("the farthest pair", Make.heap(0, 0, 9, 0, 0, 9, 1, 1).pair(0, true), 102);
    due.same("the farthest of several", Make.heap(0, 0, 4, 0, 4, 4, 0, 4).pair(0, true), 2);
    due.same("the farthest of several with a point",
        Make.heap(0, 0, 5, 0, 0, 5, -5, 0, 1, 1).pair(0, true), 103);
    due.same("the farthest at one place", Make.heap(9, 9, 9, 9, 9, 9).pair(0, true), 1);
  }

  private void wide(long over, long under, int... numbers) {
    HullyardSurveys yard = Make.heap(numbers);
    yard.hull(0);
    due.same("the numerator", yard.width(false), over);
    due.same("the denominator", yard.width(true), under);
  }

  private void whatAWidthIs() {
    told.says(
        "The width of a figure that is a polygon is the least distance of two parallel lines"
            + " between which it lies.");
    wide(9, 1, 0, 0, 4, 0, 4, 3, 0, 3);
    wide(4, 1, 0, 0, 9, 0, 7, 2, 1, 2);
    // From the side at the first corner, from the side at the last one, far from 0.
    wide(4, 1, 0, 0, 10, 0, 5, 2);
    wide(4, 1, 0, 0, 5, -2, 10, 0);
    wide(4, 1, -20, -21, -10, -21, -15, -19);
    wide(144, 25, 0, 0, 4, 0, 0, 3);

    told.says("It is told squared, as a fraction in lowest terms.");
    wide(1, 2, 0, 0, 1, 0, 0, 1);
    wide(32, 5, 0, 0, 3, 1, 1, 3);
    wide(8, 1, 0, 0, 2, -2, 6, 2, 4, 4);
  }

  private void whatBoxesAre() {
    told.says(
        "The box of a heap is the least one, with sides along x and y, that holds all its points.");
    int[] want = {-3, 5, -7, 9};
    HullyardSurveys yard = Make.heap(5, -7, -3, 9, 1, 1);
    for (int what = 0; what < 4; what++) {
      due.same("box " + what, yard.box(0, what), want[what]);
    }

    told.says(
        "The fence of k points of a heap is the least sum of width and height of a box, with sides"
            + " along x and y, that holds at least k of its points.");
    fences(Make.heap(SIX), 0, 1, 3, 5, 7, 7);
    fences(Make.heap(0, 0, 2, 0, 2, 2, 0, 2, 1, 1), 0, 2, 3, 4, 4);
    // The least box for 1 holds 3.
    fences(Make.heap(0, 0, 0, 0, 0, 0, 9, 9), 0, 0, 0, 18);
    // Fewer points at the sides than in the middle: the box is not the one of neighbours by x.
    fences(Make.heap(0, 0, 1, 100, 2, 0, 3, 100, 4, 0), 0, 2, 4, 103, 104);
    told.end();
  }

  private void fences(HullyardSurveys yard, int... want) {
    for (int i = 0; i < want.length; i++) {
      due.same("fence of " + (i + 1), yard.fence(0, i + 1), want[i]);
    }
  }

  private void pair() {
    told.promise(39);
    told.says(
        "Returns the nearest pair of a heap, or the farthest one.",
        "Returns 100 times the first point plus the second one.");
    HullyardSurveys yard = Make.heap(0, 0, 3, 0);
    Make.points(yard, 1, 0, 0, 3, 0);
    Make.points(yard, 0, 7, 0);
    due.same("of points of a heap alone", yard.pair(0, false), 1);
    due.same("the farthest of them", yard.pair(0, true), 4);
    yard.drop(0);
    due.same("after a drop", yard.pair(0, false), 104);
    HullyardSurveys full = sixty();
    due.same("of 60", full.pair(0, false), 1);
    due.same("the farthest of 60", full.pair(0, true), 59);
    for (int i = 0; i < 58; i++) {
      full.drop(i);
    }
    due.same("of the last two of 60", full.pair(0, false), 5859);

    told.says("- `heap`: 0 to 2");
    due.same("pair of heap 1", yard.pair(1, false), 203);
    Make.points(yard, 2, 5, 5, 6, 6);
    due.same("pair of heap 2", yard.pair(2, false), 506);
    told.says("- `isFarthest`: whether the farthest one is asked");
    HullyardSurveys six = Make.heap(SIX);
    due.same("the farthest one", six.pair(0, true), 2);
    due.same("the nearest one", six.pair(0, false), 405);

    told.says("Throws `IllegalArgumentException` if heap is out of range");
    for (int heap : NO_HEAPS) {
      due.raises("nearest of " + heap, BAD, () -> yard.pair(heap, false));
      due.raises("farthest of " + heap, BAD, () -> yard.pair(heap, true));
    }
    told.says("Throws `NoSuchElementException` if the heap has fewer than 2 points");
    HullyardSurveys few = Make.heap(0, 0, 1, 1);
    Make.points(few, 1, 5, 5);
    due.same("pair of two points", few.pair(0, true), 1);
    few.drop(1);
    for (boolean isFarthest : new boolean[] {false, true}) {
      due.raises("pair of one point", EMPTY, () -> few.pair(1, isFarthest));
      due.raises("pair of no point", EMPTY, () -> few.pair(2, isFarthest));
      due.raises("pair after a drop", EMPTY, () -> few.pair(0, isFarthest));
    }
    told.end();
  }

  private void distance() {
    told.promise(40);
    told.says("Returns the distance of this pair, squared.", "Returns the distance, squared.");
    HullyardSurveys six = Make.heap(SIX);
    HullyardSurveys full = sixty();
    due.same("of 60", full.distance(0, false), 9);
    due.same("the farthest of 60", full.distance(0, true), 177 * 177);
    full.drop(0);
    due.same("after a drop", full.distance(0, true), 174 * 174);
    for (int i = 1; i < 58; i++) {
      full.drop(i);
    }
    due.same("of the last two of 60", full.distance(0, false), 9);
    due.same("of two at one place", Make.heap(1, 1, 1, 1).distance(0, false), 0);

    told.says("- `heap`: 0 to 2");
    HullyardSurveys yard = Make.heap(0, 0, 3, 0);
    Make.points(yard, 2, 0, 0, 2, 0);
    due.same("distance of heap 0", yard.distance(0, false), 9);
    due.same("distance of heap 2", yard.distance(2, false), 4);
    told.says("- `isFarthest`: whether the farthest one is asked");
    due.same("the farthest one", six.distance(0, true), 25);
    due.same("the nearest one", six.distance(0, false), 1);

    told.says("Throws `IllegalArgumentException` if heap is out of range");
    for (int heap : NO_HEAPS) {
      due.raises("nearest of " + heap, BAD, () -> yard.distance(heap, false));
      due.raises("farthest of " + heap, BAD, () -> yard.distance(heap, true));
    }
    told.says("Throws `NoSuchElementException` if the heap has fewer than 2 points");
    Make.points(yard, 1, 5, 5);
    yard.drop(3);
    for (boolean isFarthest : new boolean[] {false, true}) {
      due.raises("distance of one point", EMPTY, () -> yard.distance(1, isFarthest));
      due.raises("distance after a drop", EMPTY, () -> yard.distance(2, isFarthest));
      due.raises("distance of none", EMPTY, () -> new HullyardSurveys().distance(0, isFarthest));
    }
    told.end();
  }

  private void box() {
    told.promise(41);
    told.says("Returns a number of the box of a heap.", "Returns the number.");
    HullyardSurveys yard = Make.heap(5, -7, -3, 9, 1, 1);
    due.same("the least x", yard.box(0, 0), -3);
    yard.drop(1);
    due.same("the least x after a drop", yard.box(0, 0), 1);
    due.same("the greatest y after a drop", yard.box(0, 3), 1);
    HullyardSurveys above = Make.heap(9, 8, 7, 6);
    due.same("a least x above 0", above.box(0, 0), 7);
    due.same("a least y above 0", above.box(0, 2), 6);
    HullyardSurveys below = Make.heap(-9, -8, -7, -6);
    due.same("a greatest x below 0", below.box(0, 1), -7);
    due.same("a greatest y below 0", below.box(0, 3), -6);

    told.says("- `heap`: 0 to 2");
    Make.points(yard, 2, 100, 101);
    due.same("box of heap 0", yard.box(0, 1), 5);
    due.same("box of heap 2", yard.box(2, 1), 100);
    told.says("- `what`: 0 the least x, 1 the greatest x, 2 the least y, 3 the greatest y");
    int[] want = {-200, 199, -198, 200};
    HullyardSurveys great = Make.heap(-200, 200, 199, -198);
    int[] place = {100, 100, 101, 101};
    for (int what = 0; what < 4; what++) {
      due.same("box " + what, great.box(0, what), want[what]);
      due.same("box of one point, " + what, yard.box(2, what), place[what]);
    }
  }

  private void boxRefuses() {
    told.says("Throws `IllegalArgumentException` if heap or what is out of range");
    HullyardSurveys yard = Make.heap(1, 1);
    for (int what : new int[] {-1, 4, LEAST, MOST}) {
      due.raises("box " + what, BAD, () -> yard.box(0, what));
      due.raises("box of an empty heap, " + what, BAD, () -> yard.box(2, what));
      due.raises("box of no heap, " + what, BAD, () -> yard.box(3, what));
    }
    for (int heap : NO_HEAPS) {
      due.raises("box of " + heap, BAD, () -> yard.box(heap, 0));
    }
    told.says("Throws `NoSuchElementException` if the heap is empty");
    for (int what = 0; what < 4; what++) {
      int asked = what;
      due.raises("box of an empty heap", EMPTY, () -> yard.box(2, asked));
    }
    yard.drop(0);
    due.raises("box of a heap that was dropped", EMPTY, () -> yard.box(0, 3));
    told.end();
  }

  private void fence() {
    told.promise(42);
    told.says("Returns the fence of some points of a heap.", "Returns the fence.");
    fences(Make.heap(7, 7, 7, 7, 7, 7), 0, 0, 0);
    fences(Make.heap(-200, -200, 200, 200), 0, 800);
    HullyardSurveys full = new HullyardSurveys();
    for (int i = 0; i < 60; i++) {
      full.point(0, 6 * i - 200, 6 * (i % 2));
    }
    due.same("fence of 60", full.fence(0, 60), 59 * 6 + 6);
    due.same("fence of 30", full.fence(0, 30), 29 * 6 + 6);
    due.same("fence of 3", full.fence(0, 3), 18);

    told.says("- `heap`: 0 to 2");
    HullyardSurveys yard = Make.heap(0, 0, 9, 9);
    Make.points(yard, 2, 1, 1, 2, 2);
    due.same("fence of heap 0", yard.fence(0, 2), 18);
    due.same("fence of heap 2", yard.fence(2, 2), 2);
    told.says("- `points`: 1 or more");
    due.same("fence of 1", yard.fence(0, 1), 0);
    due.same("fence of 2", yard.fence(0, 2), 18);
    due.raises("fence of 0", BAD, () -> yard.fence(0, 0));
  }

  private void fenceRefuses() {
    told.says(
        "Throws `IllegalArgumentException` if heap is out of range, or points is below 1");
    HullyardSurveys yard = Make.heap(0, 0, 1, 1);
    for (int heap : NO_HEAPS) {
      due.raises("fence of heap " + heap, BAD, () -> yard.fence(heap, 1));
      due.raises("fence of heap " + heap + ", too many", BAD, () -> yard.fence(heap, MOST));
    }
    for (int points : new int[] {0, -1, LEAST}) {
      due.raises("fence of " + points, BAD, () -> yard.fence(0, points));
      due.raises("fence of an empty heap, " + points, BAD, () -> yard.fence(2, points));
    }
    told.says("Throws `NoSuchElementException` if the heap has not so many points");
    due.same("fence of all points", yard.fence(0, 2), 2);
    for (int points : new int[] {3, 60, 61, MOST}) {
      due.raises("fence of " + points, EMPTY, () -> yard.fence(0, points));
    }
    due.raises("fence of an empty heap", EMPTY, () -> yard.fence(2, 1));
    yard.drop(1);
    due.raises("fence after a drop", EMPTY, () -> yard.fence(0, 2));
    due.raises("fence of 61 of 60", EMPTY, () -> sixty().fence(0, 61));
    told.end();
  }

  private void apartOf(String what, boolean want, int[] one, int[] two) {
    HullyardSurveys yard = Make.heap(one);
    Make.points(yard, 1, two);
    due.same("apart of " + what, yard.apart(0, 1), want);
    due.same("apart of " + what + ", turned", yard.apart(1, 0), want);
    due.same("apart of the same", yard.apart(0, 0), false);
    due.same("corners after apart", yard.corners(), 0);
  }

  private void apart() {
    told.promise(43);
    told.says(
        "Tells whether the hulls of two heaps have no place in common, be it on the grid or not.",
        "Returns whether they have none.");
    int[] square = {0, 0, 4, 0, 4, 4, 0, 4};
    apartOf("two squares", true, square, new int[] {5, 0, 9, 0, 9, 4, 5, 4});
    apartOf("squares at a side", false, square, new int[] {4, 1, 9, 1, 9, 9, 4, 9});
    apartOf("squares at a corner", false, square, new int[] {4, 4, 9, 4, 9, 9, 4, 9});
    apartOf("one within the other", false, square, new int[] {1, 1, 2, 1, 1, 2});
    apartOf("the same square", false, square, square);
    apartOf("a cross without a corner inside", false, square, new int[] {1, -5, 1, 9, 2, 9, 2, -5});
    apartOf("a stretch through", false, square, new int[] {-3, 2, 9, 3});
    apartOf("a stretch past", true, square, new int[] {6, 0, 0, 20});
    apartOf("a stretch that touches", false, square, new int[] {5, 0, 0, 20});
    apartOf("a stretch by a corner", false, square, new int[] {8, 0, 0, 8});
    apartOf("a place inside", false, square, new int[] {2, 2});
    apartOf("a place on the edge", false, square, new int[] {4, 2});
    apartOf("a place beside", true, square, new int[] {5, 2});
    apartOf("two places", true, new int[] {0, 0}, new int[] {0, 1});
    apartOf("two places that are one", false, new int[] {1, 1}, new int[] {1, 1, 1, 1});
    apartOf("stretches that cross between places", false,
        new int[] {0, 0, 1, 1}, new int[] {1, 0, 0, 1});
    apartOf("stretches on a line", true, new int[] {0, 0, 2, 2}, new int[] {3, 3, 5, 5});
    apartOf("stretches on a line that meet", false, new int[] {0, 0, 2, 2}, new int[] {2, 2, 5, 5});
    apartOf("what is thin and near", true,
        new int[] {-200, -200, 200, 199}, new int[] {-199, -199, 200, 200});
    apartOf("boxes that overlap, hulls that do not", true,
        new int[] {0, 0, 9, 0, 0, 9}, new int[] {9, 9, 9, 2, 2, 9});

    told.says("- `heap`: 0 to 2");
    HullyardSurveys yard = Make.heap(0, 0);
    Make.points(yard, 1, 1, 1);
    Make.points(yard, 2, 1, 1);
    due.same("apart of 0 and 1", yard.apart(0, 1), true);
    due.same("apart of 2 and 1", yard.apart(2, 1), false);
    told.says("- `other`: 0 to 2, perhaps the same");
    due.same("apart of 1 and 0", yard.apart(1, 0), true);
    due.same("apart of 1 and 2", yard.apart(1, 2), false);
    due.same("apart of 2 and 2", yard.apart(2, 2), false);
  }

  private void apartRefuses() {
    told.says("Throws `IllegalArgumentException` if heap or other is out of range");
    HullyardSurveys yard = Make.heap(0, 0, 1, 1);
    for (int heap : NO_HEAPS) {
      due.raises("apart of " + heap + ", 0", BAD, () -> yard.apart(heap, 0));
      due.raises("apart of 0, " + heap, BAD, () -> yard.apart(0, heap));
      due.raises("apart of an empty heap, " + heap, BAD, () -> yard.apart(1, heap));
      due.raises("apart of " + heap + ", an empty heap", BAD, () -> yard.apart(heap, 1));
      due.raises("apart of " + heap + " and itself", BAD, () -> yard.apart(heap, heap));
    }
    told.says("Throws `NoSuchElementException` if one of both is empty");
    due.raises("apart of 0, 1", EMPTY, () -> yard.apart(0, 1));
    due.raises("apart of 1, 0", EMPTY, () -> yard.apart(1, 0));
    due.raises("apart of 1, 1", EMPTY, () -> yard.apart(1, 1));
    due.raises("apart of 1, 2", EMPTY, () -> yard.apart(1, 2));
    told.end();
  }

  private void meanFar() {
    told.promise(47);
    told.says(
        "Returns the mean distance of the points of a heap to its first point in order, along x and"
            + " y.");
    HullyardSurveys yard = Make.heap(4, 0, 4, 3, 0, 3, 2, 1, 0, 0);
    due.sameReal("meanFar", yard.meanFar(0), 3.4);
    yard.drop(4);
    due.sameReal("meanFar, the first one dropped", yard.meanFar(0), 3.75);

    told.says("- `heap`: 0 to 2");
    Make.points(yard, 2, 9, -9, 9, -8);
    due.sameReal("meanFar of heap 2", yard.meanFar(2), 0.5);
    due.sameReal("meanFar of heap 0", yard.meanFar(0), 3.75);

    told.says(
        "Returns the sum, over all points, of the amounts by which x and y differ from those of the"
            + " first one, converted to double, divided by the number of points, converted to"
            + " double;");
    HullyardSurveys thirds = Make.heap(-200, 200, 200, -200, 7, 7);
    due.sameReal("meanFar of three", thirds.meanFar(0), 400.0);
    HullyardSurveys odd = Make.heap(-200, 200, 200, -200, 7, 8);
    due.sameReal("meanFar of odd thirds", odd.meanFar(0), (double) 1199 / (double) 3);
    due.sameReal("meanFar of one point", Make.heap(50, 60).meanFar(0), 0.0);
    HullyardSurveys full = Make.heap(-200, -200);
    for (int i = 1; i < 60; i++) {
      full.point(0, 200, 200);
    }
    due.sameReal("meanFar of 60", full.meanFar(0), (double) 47200 / (double) 60);

    told.says("0.0 without points.");
    due.sameReal("meanFar of none", yard.meanFar(1), 0.0);
    HullyardSurveys none = Make.heap(5, 5);
    none.drop(0);
    due.sameReal("meanFar of a heap that was dropped", none.meanFar(0), 0.0);

    told.says("Throws `IllegalArgumentException` if heap is out of range");
    for (int heap : NO_HEAPS) {
      due.raises("meanFar of " + heap, BAD, () -> yard.meanFar(heap));
    }
    told.end();
  }
}
