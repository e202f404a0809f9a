/** Promises 34 to 38. */
public final class LinesTest {
  private static final Class<IllegalArgumentException> BAD = IllegalArgumentException.class;
  private static final Class<IllegalStateException> STATE = IllegalStateException.class;
  private static final Class<IndexOutOfBoundsException> NONE = IndexOutOfBoundsException.class;

  private final Due due = new Due();

  public static void main(String[] args) {
    LinesTest test = new LinesTest();
    test.line();
    test.lineRefuses();
    test.clearLines();
    test.cross();
    test.crossRefuses();
    test.crossings();
    test.due.end();
  }

  // Promise 34
  private void line() {
    HullyardSurveys yard = new HullyardSurveys();
    due.same("the first line", yard.line(-200, -200, 200, 200), 0);
    due.same("the next line", yard.line(200, -200, -200, 200), 1);
    due.same("a line to the same place", yard.line(5, 5, 5, 5), 2);
    for (int line = 3; line < 20; line++) {
      due.same("line", yard.line(line, 100, line, 100), line);
    }
    due.refuses(yard, "the 21st line", STATE, () -> yard.line(0, 0, 1, 1));
    due.raises("the 21st line, out of range", BAD, () -> yard.line(0, 0, 1, 201));
    due.same("lines after a refused one", yard.clearLines(), 20);
  }

  private void lineRefuses() {
    HullyardSurveys yard = Make.lines(0, 0, 1, 1);
    for (int far : new int[] {-201, 201, Integer.MIN_VALUE, Integer.MAX_VALUE}) {
      due.raises("line from x " + far, BAD, () -> yard.line(far, 0, 0, 0));
      due.raises("line from y " + far, BAD, () -> yard.line(0, far, 0, 0));
      due.raises("line to x " + far, BAD, () -> yard.line(0, 0, far, 0));
      due.raises("line to y " + far, BAD, () -> yard.line(0, 0, 0, far));
    }
    due.same("a line after refused ones", yard.line(2, 2, 3, 3), 1);
  }

  // Promise 35
  private void clearLines() {
    HullyardSurveys yard = Make.lines(0, 0, 4, 4, 4, 0, 0, 4, 9, 9, 9, 9);
    due.same("clearLines", yard.clearLines(), 3);
    due.same("clearLines again", yard.clearLines(), 0);
    due.same("crossings behind it", yard.crossings(), 0);
    due.raises("cross behind it", NONE, () -> yard.cross(0, 0));
    due.same("the first line behind it", yard.line(0, 0, 1, 0), 0);
  }

  private void crossing(String what, boolean want, int... numbers) {
    HullyardSurveys yard = Make.lines(numbers);
    due.same("cross of " + what, yard.cross(0, 1), want);
    due.same("cross of " + what + ", turned", yard.cross(1, 0), want);
    due.same("cross of itself", yard.cross(1, 1), true);
    due.same("crossings of " + what, yard.crossings(), want ? 1 : 0);
  }

  // Promise 36
  private void cross() {
    crossing("a cross", true, 0, 0, 2, 2, 0, 2, 2, 0);
    crossing("a cross between the places", true, 0, 0, 1, 1, 0, 1, 1, 0);
    crossing("a T", true, 0, 0, 4, 0, 2, 0, 2, 5);
    crossing("all but a T", false, 0, 0, 4, 0, 2, 1, 2, 5);
    crossing("an end at an end", true, 0, 0, 4, 0, 4, 0, 9, 9);
    crossing("an end ahead of the first", false, 0, 0, 4, 0, 5, 0, 9, 0);
    crossing("a part on a line", true, 0, 0, 4, 0, 3, 0, 9, 0);
    crossing("one within the other", true, 0, 0, 9, 9, 3, 3, 4, 4);
    crossing("the same", true, 1, 2, 3, 4, 1, 2, 3, 4);
    crossing("the same, turned", true, 1, 2, 3, 4, 3, 4, 1, 2);
    crossing("what is parallel", false, 0, 0, 4, 4, 1, 0, 5, 4);
    crossing("on a line that stands, apart", false, 0, 0, 0, 2, 0, 3, 0, 9);
    crossing("a place on a line", true, 0, 0, 4, 4, 2, 2, 2, 2);
    crossing("a place at an end", true, 0, 0, 4, 4, 4, 4, 4, 4);
    crossing("a place on the way on", false, 0, 0, 4, 4, 5, 5, 5, 5);
    crossing("a place beside", false, 0, 0, 4, 4, 2, 3, 2, 3);
    crossing("two places that are one", true, 7, 7, 7, 7, 7, 7, 7, 7);
    crossing("two places", false, 7, 7, 7, 7, 7, 8, 7, 8);
    crossing("what misses by little", false, -200, -200, 200, 199, 0, 0, 200, 200);
    crossing("what meets by little", true, -200, -200, 200, 199, 0, -1, -1, 0);
    crossing("only the lines meet, not the stretches", false, 0, 0, 1, 1, 9, 0, 0, 9);
  }

  private void crossRefuses() {
    HullyardSurveys yard = Make.lines(0, 0, 4, 4, 4, 0, 0, 4);
    for (int line : new int[] {-1, 2, 20, Integer.MIN_VALUE, Integer.MAX_VALUE, 1 << 30}) {
      due.raises("cross of " + line + ", 0", NONE, () -> yard.cross(line, 0));
      due.raises("cross of 0, " + line, NONE, () -> yard.cross(0, line));
      due.raises("cross of itself, " + line, NONE, () -> yard.cross(line, line));
    }
  }

  // Promises 37 and 38
  private void crossings() {
    HullyardSurveys yard =
        Make.lines(0, 5, 9, 5, 20, 0, 20, 9, 1, 0, 1, 9, 2, 0, 2, 9, 0, 1, 30, 1);
    due.same("crossings", yard.crossings(), 5);
    int[] want = {2, 3, 104, 204, 304};
    for (int place = 0; place < want.length; place++) {
      due.same("crossingAt " + place, yard.crossingAt(place), want[place]);
    }
    for (int place : new int[] {-1, 5, Integer.MIN_VALUE, Integer.MAX_VALUE}) {
      due.raises("crossingAt " + place, NONE, () -> yard.crossingAt(place));
    }
    HullyardSurveys full = new HullyardSurveys();
    for (int i = 0; i < 20; i++) {
      full.line(-200, i, 200, -i);
    }
    due.same("crossings of 20 lines", full.crossings(), 190);
    due.same("the last of them", full.crossingAt(189), 1819);
    due.same("the 20th of them", full.crossingAt(19), 102);
    due.raises("behind the last of them", NONE, () -> full.crossingAt(190));
    due.raises("crossingAt without lines", NONE, () -> new HullyardSurveys().crossingAt(0));
  }
}
