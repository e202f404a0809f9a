import java.util.NoSuchElementException;

/** Promises 39 to 43 and 47. */
public final class PairsTest {
  private static final Class<IllegalArgumentException> BAD = IllegalArgumentException.class;
  private static final Class<NoSuchElementException> EMPTY = NoSuchElementException.class;

  private static final int[] WRONG = {-1, 3, Integer.MIN_VALUE, Integer.MAX_VALUE};

  private final Due due = new Due();

  public static void main(String[] args) {
    PairsTest test = new PairsTest();
    test.pair();
    test.pairRefuses();
    test.box();
    test.fence();
    test.fenceRefuses();
    test.apart();
    test.apartRefuses();
    test.meanFar();
    test.due.end();
  }

  private void pairs(HullyardSurveys yard, int near, int nearBy, int far, int farBy) {
    due.same("the nearest pair", yard.pair(0, false), near);
    due.same("its distance", yard.distance(0, false), nearBy);
    due.same("the farthest pair", yard.pair(0, true), far);
    due.same("its distance", yard.distance(0, true), farBy);
  }

  // Promises 39 and 40
  private void pair() {
    pairs(Make.heap(0, 0, 4, 0, 4, 3, 0, 3, 2, 1, 2, 0), 405, 1, 2, 25);
    pairs(Make.heap(0, 0, 1, 0, 1, 1, 0, 1), 1, 1, 2, 2);
    pairs(Make.heap(9, 9, 9, 9, 9, 9), 1, 0, 1, 0);
    pairs(Make.heap(-200, -200, 200, 200), 1, 320000, 1, 320000);
    pairs(Make.heap(0, 0, 50, 0, 9, 9, 0, 50, 9, 10), 204, 1, 103, 5000);
    HullyardSurveys yard = Make.heap(0, 0, 3, 0);
    Make.points(yard, 1, 0, 0, 3, 0);
    Make.points(yard, 0, 7, 0);
    pairs(yard, 1, 9, 4, 49);
    due.same("the pair of another heap", yard.pair(1, false), 203);
    yard.drop(0);
    pairs(yard, 104, 16, 104, 16);
    HullyardSurveys full = new HullyardSurveys();
    for (int i = 0; i < 60; i++) {
      full.point(0, 3 * i, 0);
    }
    pairs(full, 1, 9, 59, 177 * 177);
    full.drop(0);
    full.drop(58);
    pairs(full, 102, 9, 159, 174 * 174);
  }

  private void pairRefuses() {
    HullyardSurveys yard = Make.heap(0, 0, 1, 1);
    Make.points(yard, 1, 5, 5);
    for (boolean isFarthest : new boolean[] {false, true}) {
      for (int heap : WRONG) {
        due.raises("pair of " + heap, BAD, () -> yard.pair(heap, isFarthest));
        due.raises("distance of " + heap, BAD, () -> yard.distance(heap, isFarthest));
      }
      due.raises("pair of one point", EMPTY, () -> yard.pair(1, isFarthest));
      due.raises("distance of one point", EMPTY, () -> yard.distance(1, isFarthest));
      due.raises("pair of no point", EMPTY, () -> yard.pair(2, isFarthest));
      due.raises("distance of no point", EMPTY, () -> yard.distance(2, isFarthest));
    }
    yard.drop(1);
    due.raises("pair after a drop", EMPTY, () -> yard.pair(0, false));
    due.raises("distance after a drop", EMPTY, () -> yard.distance(0, false));
  }

  // Promise 41
  private void box() {
    HullyardSurveys yard = Make.heap(5, -7, -3, 9, 1, 1);
    Make.points(yard, 1, 100, 100);
    int[] want = {-3, 5, -7, 9};
    for (int what = 0; what < 4; what++) {
      due.same("box " + what, yard.box(0, what), want[what]);
      due.same("box of one point " + what, yard.box(1, what), 100);
    }
    yard.drop(1);
    due.same("the least x after a drop", yard.box(0, 0), 1);
    due.same("the greatest y after a drop", yard.box(0, 3), 1);
    HullyardSurveys below = Make.heap(-9, -8, -7, -6);
    due.same("a greatest x below 0", below.box(0, 1), -7);
    due.same("a greatest y below 0", below.box(0, 3), -6);
    for (int what : new int[] {-1, 4, Integer.MIN_VALUE, Integer.MAX_VALUE}) {
      due.raises("box " + what, BAD, () -> yard.box(0, what));
      due.raises("box of an empty heap, " + what, BAD, () -> yard.box(2, what));
    }
    for (int heap : WRONG) {
      due.raises("box of " + heap, BAD, () -> yard.box(heap, 0));
    }
    due.raises("box of an empty heap", EMPTY, () -> yard.box(2, 0));
  }

  private void fences(HullyardSurveys yard, int... want) {
    for (int i = 0; i < want.length; i++) {
      due.same("fence of " + (i + 1), yard.fence(0, i + 1), want[i]);
    }
    due.raises("fence of one more", EMPTY, () -> yard.fence(0, want.length + 1));
  }

  // Promise 42
  private void fence() {
    fences(Make.heap(0, 0, 4, 0, 4, 3, 0, 3, 2, 1, 2, 0), 0, 1, 3, 5, 7, 7);
    fences(Make.heap(0, 0, 2, 0, 2, 2, 0, 2, 1, 1), 0, 2, 3, 4, 4);
    fences(Make.heap(7, 7, 7, 7, 7, 7), 0, 0, 0);
    fences(Make.heap(-200, -200, 200, 200), 0, 800);
    // Fewer points at the sides than in the middle: the box is not the one of neighbours by x.
    fences(Make.heap(0, 0, 1, 100, 2, 0, 3, 100, 4, 0), 0, 2, 4, 103, 104);
    HullyardSurveys yard = Make.heap(0, 0, 9, 9);
    Make.points(yard, 1, 1, 1);
    fences(yard, 0, 18);
    yard.drop(0);
    fences(yard, 0);
    HullyardSurveys full = new HullyardSurveys();
    for (int i = 0; i < 60; i++) {
      full.point(0, 6 * i - 200, 6 * (i % 2));
    }
    due.same("fence of 60", full.fence(0, 60), 59 * 6 + 6);
    due.same("fence of 30", full.fence(0, 30), 29 * 6 + 6);
    due.same("fence of 3", full.fence(0, 3), 18);
  }

  private void fenceRefuses() {
    HullyardSurveys yard = Make.heap(0, 0, 1, 1);
    for (int heap : WRONG) {
      due.raises("fence of heap " + heap, BAD, () -> yard.fence(heap, 1));
    }
    for (int points : new int[] {0, -1, Integer.MIN_VALUE}) {
      due.raises("fence of " + points, BAD, () -> yard.fence(0, points));
      due.raises("fence of an empty heap, " + points, BAD, () -> yard.fence(2, points));
    }
    due.raises("fence of 3", EMPTY, () -> yard.fence(0, 3));
    due.raises("fence of the greatest", EMPTY, () -> yard.fence(0, Integer.MAX_VALUE));
    due.raises("fence of an empty heap", EMPTY, () -> yard.fence(2, 1));
  }

  private void apartOf(String what, boolean want, int[] one, int[] two) {
    HullyardSurveys yard = Make.heap(one);
    Make.points(yard, 1, two);
    due.same("apart of " + what, yard.apart(0, 1), want);
    due.same("apart of " + what + ", turned", yard.apart(1, 0), want);
    due.same("apart of the same", yard.apart(0, 0), false);
    due.same("corners after apart", yard.corners(), 0);
  }

  // Promise 43
  private void apart() {
    int[] square = {0, 0, 4, 0, 4, 4, 0, 4};
    apartOf("two squares", true, square, new int[] {5, 0, 9, 0, 9, 4, 5, 4});
    apartOf("squares at a side", false, square, new int[] {4, 1, 9, 1, 9, 9, 4, 9});
    apartOf("squares at a corner", false, square, new int[] {4, 4, 9, 4, 9, 9, 4, 9});
    apartOf("one within the other", false, square, new int[] {1, 1, 2, 1, 1, 2});
    apartOf("the same square", false, square, square);
    apartOf("a cross without a corner inside", false, square, new int[] {1, -5, 1, 9, 2, 9, 2, -5});
    apartOf("a stretch through", false, square, new int[] {-3, 2, 9, 3});
    apartOf("a stretch past", true, square, new int[] {6, 0, 0, 20});
    apartOf("a stretch that touches", false, square, new int[] {5, 0, 0, 20});
    apartOf("a stretch by a corner", false, square, new int[] {8, 0, 0, 8});
    apartOf("a place inside", false, square, new int[] {2, 2});
    apartOf("a place on the edge", false, square, new int[] {4, 2});
    apartOf("a place beside", true, square, new int[] {5, 2});
    apartOf("two places", true, new int[] {0, 0}, new int[] {0, 1});
    apartOf("two places that are one", false, new int[] {1, 1}, new int[] {1, 1, 1, 1});
    apartOf("stretches that cross between places", false,
        new int[] {0, 0, 1, 1}, new int[] {1, 0, 0, 1});
    apartOf("stretches on a line", true, new int[] {0, 0, 2, 2}, new int[] {3, 3, 5, 5});
    apartOf("stretches on a line that meet", false, new int[] {0, 0, 2, 2}, new int[] {2, 2, 5, 5});
    apartOf("what is thin and near", true,
        new int[] {-200, -200, 200, 199}, new int[] {-199, -199, 200, 200});
    apartOf("boxes that overlap, hulls that do not", true,
        new int[] {0, 0, 9, 0, 0, 9}, new int[] {9, 9, 9, 2, 2, 9});
  }

  private void apartRefuses() {
    HullyardSurveys yard = Make.heap(0, 0, 1, 1);
    for (int heap : WRONG) {
      due.raises("apart of " + heap + ", 0", BAD, () -> yard.apart(heap, 0));
      due.raises("apart of 0, " + heap, BAD, () -> yard.apart(0, heap));
      due.raises("apart of an empty heap, " + heap, BAD, () -> yard.apart(1, heap));
    }
    due.raises("apart of 0, 1", EMPTY, () -> yard.apart(0, 1));
    due.raises("apart of 1, 0", EMPTY, () -> yard.apart(1, 0));
    due.raises("apart of 1, 1", EMPTY, () -> yard.apart(1, 1));
  }

  // Promise 47
  private void meanFar() {
    HullyardSurveys yard = Make.heap(4, 0, 4, 3, 0, 3, 2, 1, 0, 0);
    due.sameReal("meanFar", yard.meanFar(0), 17.0 / 5.0);
    due.sameReal("meanFar of none", yard.meanFar(1), 0.0);
    yard.drop(4);
    due.sameReal("meanFar after the first is dropped", yard.meanFar(0), (7.0 + 4.0 + 4.0) / 4.0);
    Make.points(yard, 2, 9, -9);
    due.sameReal("meanFar of one", yard.meanFar(2), 0.0);
    HullyardSurveys thirds = Make.heap(-200, 200, 200, -200, 7, 7);
    due.sameReal("meanFar of thirds", thirds.meanFar(0), (double) (800 + 207 + 193) / 3.0);
    HullyardSurveys odd = Make.heap(-200, 200, 200, -200, 7, 8);
    due.sameReal("meanFar of odd thirds", odd.meanFar(0), 1199.0 / 3.0);
    for (int heap : WRONG) {
      due.raises("meanFar of " + heap, BAD, () -> yard.meanFar(heap));
    }
  }
}
