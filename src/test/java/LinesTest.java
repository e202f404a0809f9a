/** Section 4 of the terms, and promises 34 to 38, sentence by sentence. */
public final class LinesTest {
  private static final Class<IllegalArgumentException> BAD = IllegalArgumentException.class;
  private static final Class<IllegalStateException> STATE = IllegalStateException.class;
  private static final Class<IndexOutOfBoundsException> NONE = IndexOutOfBoundsException.class;

  private static final int LEAST = Integer.MIN_VALUE;
  private static final int MOST = Integer.MAX_VALUE;
  private static final int[] TOO_FAR = {-201, 201, LEAST, MOST};
  /** Five lines; 0 crosses 2 and 3, and 4 crosses 1, 2 and 3. */
  private static final int[] FIVE = {
    0, 5, 9, 5, 20, 0, 20, 9, 1, 0, 1, 9, 2, 0, 2, 9, 0, 1, 30, 1,
  };

  private final Due due = new Due();
  private final Told told = new Told(due);

  private LinesTest() throws java.io.IOException {
  }

  public static void main(String[] args) throws java.io.IOException {
    LinesTest test = new LinesTest();
    test.whatLinesAre();
    test.whatCrossingIs();
    test.line();
    test.lineRefuses();
    test.clearLines();
    test.cross();
    test.crossRefuses();
    test.crossings();
    test.crossingAt();
    test.due.end();
  }

  /** As many lines as there can be, each of which crosses each. */
  private static HullyardSurveys twenty() {
    HullyardSurveys yard = new HullyardSurveys();
    for (int i = 0; i < 20; i++) {
      yard.line(-200, i, 200, -i);
    }
    return yard;
  }

  private void whatLinesAre() {
    told.section(4, "\n5. Pairs, widths, boxes");
    told.says("There are at most 20 lines,");
    HullyardSurveys yard = twenty();
    due.same("the last line is there", yard.cross(19, 19), true);
    due.raises("the 21st line", STATE, () -> yard.line(0, 0, 0, 0));

    told.says("numbered from 0 as they come (again from 0 behind clearLines()),");
    HullyardSurveys few = new HullyardSurveys();
    due.same("the first line", few.line(0, 0, 1, 1), 0);
    due.same("the next line", few.line(5, 5, 6, 6), 1);
    few.clearLines();
    due.same("the first line behind clearLines", few.line(0, 0, 1, 1), 0);
    yard.clearLines();
    for (int line = 0; line < 20; line++) {
      due.same("line behind clearLines", yard.line(line, 0, line, 1), line);
    }

    told.says("each from one place to another one, or to the same one.");
    HullyardSurveys places = Make.lines(0, 0, 4, 4, 2, 2, 2, 2, 2, 3, 2, 3);
    due.same("a place on a line", places.cross(0, 1), true);
    due.same("a place beside a line", places.cross(0, 2), false);
    due.same("two places", places.cross(1, 2), false);
  }

  private void crossing(String what, boolean want, int... numbers) {
    HullyardSurveys yard = Make.lines(numbers);
    due.same("cross of " + what, yard.cross(0, 1), want);
    due.same("cross of " + what + ", turned", yard.cross(1, 0), want);
    due.same("crossings of " + what, yard.crossings(), want ? 1 : 0);
  }

  private void whatCrossingIs() {
    told.says("Two lines cross if they have a place in common, be it on the grid or not.");
    crossing("a cross", true, 0, 0, 2, 2, 0, 2, 2, 0);
    crossing("a cross between the places", true, 0, 0, 1, 1, 0, 1, 1, 0);
    crossing("a T", true, 0, 0, 4, 0, 2, 0, 2, 5);
    crossing("a T from above", true, 0, 0, 4, 0, 2, 5, 2, 0);
    crossing("all but a T", false, 0, 0, 4, 0, 2, 1, 2, 5);
    crossing("an end at an end", true, 0, 0, 4, 0, 4, 0, 9, 9);
    crossing("an end at an end, on a line", true, 0, 0, 4, 0, 4, 0, 9, 0);
    crossing("an end ahead of the first", false, 0, 0, 4, 0, 5, 0, 9, 0);
    crossing("a part on a line", true, 0, 0, 4, 0, 3, 0, 9, 0);
    crossing("one within the other", true, 0, 0, 9, 9, 3, 3, 4, 4);
    crossing("the same", true, 1, 2, 3, 4, 1, 2, 3, 4);
    crossing("the same, turned", true, 1, 2, 3, 4, 3, 4, 1, 2);
    crossing("what is parallel", false, 0, 0, 4, 4, 1, 0, 5, 4);
    crossing("on a line that stands, apart", false, 0, 0, 0, 2, 0, 3, 0, 9);
    crossing("a place at an end", true, 0, 0, 4, 4, 4, 4, 4, 4);
    crossing("a place on the way on", false, 0, 0, 4, 4, 5, 5, 5, 5);
    crossing("two places that are one", true, 7, 7, 7, 7, 7, 7, 7, 7);
    crossing("two places one above the other", false, 7, 7, 7, 7, 7, 8, 7, 8);
    crossing("what misses by little", false, -200, -200, 200, 199, 0, 0, 200, 200);
    crossing("what meets by little", true, -200, -200, 200, 199, 0, -1, -1, 0);
    crossing("only the lines meet, not the stretches", false, 0, 0, 1, 1, 9, 0, 0, 9);
    crossing("all the grid", true, -200, -200, 200, 200, -200, 200, 200, -200);
    told.end();
  }

  private void line() {
    told.promise(34);
    told.says("A line comes.", "Returns its number.");
    HullyardSurveys yard = new HullyardSurveys();
    due.same("the first line", yard.line(0, 0, 4, 4), 0);
    due.same("the next line", yard.line(0, 4, 4, 0), 1);
    due.same("a line to the same place", yard.line(5, 5, 5, 5), 2);
    due.same("the first two cross", yard.crossings(), 1);

    told.says("- `x1`: -200 to 200");
    HullyardSurveys far = new HullyardSurveys();
    due.same("line from x -200", far.line(-200, 0, 0, 0), 0);
    due.same("line from x 200", far.line(200, 0, 0, 0), 1);
    for (int number : TOO_FAR) {
      due.raises("line from x " + number, BAD, () -> far.line(number, 0, 0, 0));
    }
    told.says("- `y1`: -200 to 200");
    due.same("line from y -200", far.line(0, -200, 0, 0), 2);
    due.same("line from y 200", far.line(0, 200, 0, 0), 3);
    for (int number : TOO_FAR) {
      due.raises("line from y " + number, BAD, () -> far.line(0, number, 0, 0));
    }
    told.says("- `x2`: -200 to 200");
    due.same("line to x -200", far.line(0, 0, -200, 0), 4);
    due.same("line to x 200", far.line(0, 0, 200, 0), 5);
    for (int number : TOO_FAR) {
      due.raises("line to x " + number, BAD, () -> far.line(0, 0, number, 0));
    }
    told.says("- `y2`: -200 to 200");
    due.same("line to y -200", far.line(0, 0, 0, -200), 6);
    due.same("line to y 200", far.line(0, 0, 0, 200), 7);
    for (int number : TOO_FAR) {
      due.raises("line to y " + number, BAD, () -> far.line(0, 0, 0, number));
    }
  }

  private void lineRefuses() {
    told.says("Throws `IllegalArgumentException` if a number is out of range");
    HullyardSurveys yard = Make.lines(0, 0, 1, 1);
    due.raises("all four out of range", BAD, () -> yard.line(201, -201, LEAST, MOST));
    due.raises("the last one out of range", BAD, () -> yard.line(0, 0, 0, 201));
    due.same("a line after refused ones", yard.line(2, 2, 3, 3), 1);
    HullyardSurveys full = twenty();
    due.raises("x1 out of range, 20 lines", BAD, () -> full.line(-201, 0, 0, 0));
    due.raises("y1 out of range, 20 lines", BAD, () -> full.line(0, 201, 0, 0));
    due.raises("x2 out of range, 20 lines", BAD, () -> full.line(0, 0, 201, 0));
    due.raises("y2 out of range, 20 lines", BAD, () -> full.line(0, 0, 0, -201));

    told.says("Throws `IllegalStateException` if there are 20");
    HullyardSurveys many = new HullyardSurveys();
    for (int line = 0; line < 20; line++) {
      due.same("line", many.line(line, 100, line, 100), line);
    }
    due.raises("the 21st line", STATE, () -> many.line(0, 0, 1, 1));
    due.same("lines after a refused one", many.clearLines(), 20);
    due.same("a line behind clearLines", many.line(0, 0, 1, 1), 0);
    told.end();
  }

  private void clearLines() {
    told.promise(35);
    told.says("Takes all lines away.");
    HullyardSurveys yard = Make.lines(FIVE);
    yard.clearLines();
    due.same("crossings behind it", yard.crossings(), 0);
    due.raises("cross behind it", NONE, () -> yard.cross(0, 0));
    due.raises("crossingAt behind it", NONE, () -> yard.crossingAt(0));
    due.same("the first line behind it", yard.line(0, 0, 1, 0), 0);
    due.same("crossings of one line", yard.crossings(), 0);

    told.says("Returns how many there were.");
    due.same("clearLines of 1", yard.clearLines(), 1);
    due.same("clearLines again", yard.clearLines(), 0);
    due.same("clearLines of 5", Make.lines(FIVE).clearLines(), 5);
    due.same("clearLines of 20", twenty().clearLines(), 20);
    due.same("clearLines of none", new HullyardSurveys().clearLines(), 0);
    told.end();
  }

  private void cross() {
    told.promise(36);
    told.says("Tells whether two lines cross.");
    HullyardSurveys yard = Make.lines(FIVE);
    due.same("cross of 0 and 2", yard.cross(0, 2), true);
    due.same("cross of 0 and 1", yard.cross(0, 1), false);

    told.says("- `line`: number of a line");
    due.same("cross of 4 and 1", yard.cross(4, 1), true);
    due.raises("cross of 5 and 1", NONE, () -> yard.cross(5, 1));
    told.says("- `other`: number of a line, perhaps the same");
    due.same("cross of 1 and 4", yard.cross(1, 4), true);
    due.raises("cross of 1 and 5", NONE, () -> yard.cross(1, 5));
    due.same("cross of 19 and 0 of 20", twenty().cross(19, 0), true);

    told.says("Returns whether they do; a line crosses itself.");
    for (int line = 0; line < 5; line++) {
      due.same("cross of itself", yard.cross(line, line), true);
    }
    due.same("a place crosses itself", Make.lines(3, 3, 3, 3).cross(0, 0), true);
  }

  private void crossRefuses() {
    told.says("Throws `IndexOutOfBoundsException` if there is no such line");
    HullyardSurveys yard = Make.lines(0, 0, 4, 4, 4, 0, 0, 4);
    for (int line : new int[] {-1, 2, 19, 20, LEAST, MOST, 1 << 30, 1 << 31}) {
      due.raises("cross of " + line + ", 0", NONE, () -> yard.cross(line, 0));
      due.raises("cross of 0, " + line, NONE, () -> yard.cross(0, line));
      due.raises("cross of itself, " + line, NONE, () -> yard.cross(line, line));
    }
    due.raises("cross of 20 of 20", NONE, () -> twenty().cross(20, 20));
    due.raises("cross without lines", NONE, () -> new HullyardSurveys().cross(0, 0));
    told.end();
  }

  private void crossings() {
    told.promise(37);
    told.says("Counts the pairs of lines that cross.", "Returns how many there are.");
    due.same("crossings of no lines", new HullyardSurveys().crossings(), 0);
    due.same("crossings of one line", Make.lines(0, 0, 4, 4).crossings(), 0);
    due.same("crossings of five lines", Make.lines(FIVE).crossings(), 5);
    due.same("crossings of three at one place",
        Make.lines(0, 0, 4, 4, 0, 4, 4, 0, 2, 0, 2, 4).crossings(), 3);
    due.same("crossings of 20 lines", twenty().crossings(), 190);
    HullyardSurveys apart = new HullyardSurveys();
    for (int i = 0; i < 20; i++) {
      apart.line(-200, i, 200, i);
    }
    due.same("crossings of 20 lines that do not", apart.crossings(), 0);
    told.end();
  }

  private void crossingAt() {
    told.promise(38);
    told.says(
        "Returns a pair of lines that cross, in the order of the lesser number, then of the greater"
            + " one.",
        "Returns 100 times the lesser number plus the greater one.");
    HullyardSurveys yard = Make.lines(FIVE);
    int[] want = {2, 3, 104, 204, 304};
    for (int place = 0; place < want.length; place++) {
      due.same("crossingAt " + place, yard.crossingAt(place), want[place]);
    }
    HullyardSurveys full = twenty();
    due.same("the 20th of 190", full.crossingAt(19), 102);
    due.same("the last of 190", full.crossingAt(189), 1819);

    told.says("- `place`: 0 for the first one");
    due.same("the first one", yard.crossingAt(0), 2);
    due.same("the first one of 190", full.crossingAt(0), 1);

    told.says("Throws `IndexOutOfBoundsException` if there is no such pair");
    for (int place : new int[] {-1, 5, 189, LEAST, MOST}) {
      due.raises("crossingAt " + place, NONE, () -> yard.crossingAt(place));
    }
    due.raises("crossingAt 190 of 190", NONE, () -> full.crossingAt(190));
    due.raises("crossingAt without lines", NONE, () -> new HullyardSurveys().crossingAt(0));
    due.raises("crossingAt of one line", NONE, () -> Make.lines(0, 0, 4, 4).crossingAt(0));
    told.end();
  }
}
