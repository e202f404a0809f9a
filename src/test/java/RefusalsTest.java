import java.io.IOException;
import java.lang.reflect.Method;
import java.nio.charset.StandardCharsets;
import java.nio.file.Files;
import java.nio.file.Path;
import java.util.ArrayList;
import java.util.HashMap;
import java.util.List;
import java.util.Map;
import java.util.Set;
import java.util.TreeSet;

/** Section 6 of the terms, sentence by sentence: what is refused, how, and what it leaves. */
public final class RefusalsTest {
  private static final Path SOURCE = Path.of("src", "main", "java", "HullyardSurveys.java");

  private static final String BAD = "IllegalArgumentException";
  private static final String STATE = "IllegalStateException";
  private static final String NONE = "IndexOutOfBoundsException";
  private static final String EMPTY = "NoSuchElementException";

  /** Of each call each exception that it is said to throw: the yard, the call, its numbers. */
  private static final Map<String, String[]> REFUSED =
      Map.of(
          BAD,
          new String[] {
            "small point 3 0 0", "small point 0 201 0", "small point 0 0 -201", "small pointOf 0 3",
            "small count 3", "small sorted -1 0", "small places 3", "small hull 3", "small join 0 3",
            "small join 3 0", "small sum 0 -1", "small sum -1 0", "small layers 3",
            "small layer 3 0", "small hullOf 4", "small add 4 0 0", "small add 0 -201 0",
            "small add 0 0 201", "small clear -1", "small isSimple 4", "small polygonArea 4",
            "small polygonEdge 4", "small polygonInner -1", "small polygonLies 4 0 0",
            "small holds 4 0", "small holds 0 3", "small triangles 4", "small triangleAt 4 0",
            "small sees 4 0 0", "small view 4 0", "small line 201 0 0 0", "small line 0 201 0 0",
            "small line 0 0 -201 0", "small line 0 0 0 -201", "small pair 3 true",
            "small distance -1 false", "small box 3 0", "small box 0 4", "small fence 3 1",
            "small fence 0 0", "small apart 0 3", "small apart 3 0", "small meanFar 3",
          },
          STATE,
          new String[] {
            "full point 0 0 0", "emptied point 0 0 0", "full add 0 0 0", "full line 0 0 0 0",
            "new width true", "emptied width false", "restored width true", "small polygonEdge 1",
            "small polygonEdge 2", "small polygonInner 3", "small polygonLies 1 0 0",
            "small holds 1 0", "small triangles 1", "small triangleAt 2 0", "small sees 1 0 1",
            "small view 2 0",
          },
          NONE,
          new String[] {
            "small drop 10", "small drop 11", "emptied drop 59", "full drop 60", "small pointOf 7 0",
            "small pointOf -1 0", "restored pointOf 59 0", "small sorted 0 6", "small sorted 2 -1",
            "small turn 7 0 1", "small turn 0 10 1", "small turn 0 1 11", "small layer 0 2",
            "small layer 0 -1", "emptied layer 0 0", "small corner 4 true", "new corner 0 false",
            "small triangleAt 0 3", "small triangleAt 0 -1", "full triangleAt 0 14",
            "small sees 0 5 0", "small sees 0 0 5", "small view 0 5", "full view 0 16",
            "small cross 3 0", "small cross 0 3", "full cross 20 0", "emptied cross 0 0",
            "small crossingAt 1", "small crossingAt -1", "new crossingAt 0",
          },
          EMPTY,
          new String[] {
            "new hull 0", "emptied hull 2", "restored hull 2", "restored join 0 2",
            "restored join 2 0", "restored sum 0 2", "restored sum 2 1", "small hullOf 3",
            "emptied hullOf 0", "small pair 2 true", "small distance 2 false", "emptied pair 0 false",
            "restored box 2 0", "small fence 0 7", "small fence 2 2", "emptied fence 0 1",
            "restored apart 0 2", "restored apart 2 0", "new restore", "full restore",
          });

  /** Calls to which several exceptions apply, ahead of the one that is listed first. */
  private static final String[][] SEVERAL = {
    {"full point 3 0 0", BAD}, {"full point 0 201 0", BAD}, {"emptied point 0 0 -201", BAD},
    {"small pointOf 10 3", NONE}, {"small pointOf -1 -1", NONE}, {"new pointOf 0 3", NONE},
    {"small sorted 3 -1", BAD}, {"new sorted -1 0", BAD}, {"new join 0 3", BAD},
    {"new join 3 0", BAD}, {"new sum 0 3", BAD}, {"new sum -1 0", BAD}, {"small layer 3 -1", BAD},
    {"new layer -1 0", BAD}, {"full add 4 0 0", BAD}, {"full add 0 201 0", BAD},
    {"full add 0 0 201", BAD}, {"small holds 1 3", BAD}, {"new holds 0 -1", BAD},
    {"small triangleAt 4 -1", BAD}, {"small triangleAt 1 -1", STATE}, {"new triangleAt 0 0", STATE},
    {"small sees 4 -1 0", BAD}, {"small sees -1 0 16", BAD}, {"small sees 1 -1 0", NONE},
    {"small sees 1 0 4", NONE}, {"small sees 3 0 0", NONE}, {"small view 4 16", BAD},
    {"small view 1 4", NONE}, {"small view 3 0", NONE}, {"full line 201 0 0 0", BAD},
    {"full line 0 201 0 0", BAD}, {"full line 0 0 201 0", BAD}, {"full line 0 0 0 201", BAD},
    {"new box 0 4", BAD}, {"new box 0 -1", BAD}, {"new fence 0 0", BAD}, {"new fence 3 1", BAD},
    {"new apart 0 3", BAD}, {"new apart 3 0", BAD},
  };

  private final Due due = new Due();
  private final Told told = new Told(due);
  private final Map<String, String> untouched = new HashMap<>();

  private RefusalsTest() throws IOException {
  }

  public static void main(String[] args) throws IOException {
    RefusalsTest test = new RefusalsTest();
    for (String state : Yards.STATES) {
      test.untouched.put(state, Yards.takeApart(Yards.make(state, new HullyardSurveys())));
    }
    test.told.section(6, "\n## Promise 1");
    test.several();
    test.nothingChanges();
    test.notThere();
    test.outOfRange();
    test.partsOfTheInterface();
    test.told.end();
    test.due.end();
  }

  private static Object[] numbersOf(String[] words) {
    List<Object> numbers = new ArrayList<>();
    for (int i = 2; i < words.length; i++) {
      boolean isTruth = words[i].equals("true") || words[i].equals("false");
      numbers.add(isTruth ? (Object) Boolean.valueOf(words[i]) : (Object) Integer.valueOf(words[i]));
    }
    return numbers.toArray();
  }

  private void refused(String call, String exception) {
    String[] words = call.split(" ");
    Calls yard = Yards.make(words[0], new HullyardSurveys());
    due.sameText(call, yard.answer(words[1], numbersOf(words)), exception);
  }

  private void leftAsItWas(String call) {
    String[] words = call.split(" ");
    Calls yard = Yards.make(words[0], new HullyardSurveys());
    yard.answer(words[1], numbersOf(words));
    due.sameText("what is found after " + call, Yards.takeApart(yard), untouched.get(words[0]));
  }

  private void several() {
    told.says(
        "If several exceptions apply to a call, the one that is listed first is thrown;");
    for (String[] call : SEVERAL) {
      refused(call[0], call[1]);
    }
  }

  private void nothingChanges() {
    told.says("a call that throws an exception changes nothing.");
    for (String[] calls : REFUSED.values()) {
      for (String call : calls) {
        leftAsItWas(call);
      }
    }
    for (String[] call : SEVERAL) {
      leftAsItWas(call[0]);
    }
    everyExceptionHasACall();
  }

  /** The calls above are as many as the document tells: each exception of each call is there. */
  private void everyExceptionHasACall() {
    Set<String> declared = new TreeSet<>();
    for (Method method : HullyardSurveys.class.getDeclaredMethods()) {
      for (Class<?> exception : method.getExceptionTypes()) {
        declared.add(method.getName() + " " + exception.getSimpleName());
      }
    }
    Set<String> held = new TreeSet<>();
    for (Map.Entry<String, String[]> entry : REFUSED.entrySet()) {
      for (String call : entry.getValue()) {
        held.add(call.split(" ")[1] + " " + entry.getKey());
      }
    }
    due.sameText("the exceptions of the calls", held.toString(), declared.toString());
  }

  private void notThere() {
    told.says(
        "A point, a corner or a line that is not there causes an IndexOutOfBoundsException;");
    for (String call : REFUSED.get(NONE)) {
      refused(call, NONE);
    }
  }

  private void outOfRange() {
    told.says(
        "a heap, a polygon, or another number that is out of range causes an"
            + " IllegalArgumentException.");
    for (String exception : new String[] {BAD, STATE, EMPTY}) {
      for (String call : REFUSED.get(exception)) {
        refused(call, exception);
      }
    }
  }

  private void partsOfTheInterface() throws IOException {
    String source = Files.readString(SOURCE, StandardCharsets.UTF_8);
    part(source, "Points", "point", "drop", "pointOf", "count", "sorted", "places", "turn");
    part(source, "Making the figure", "hull", "join", "sum", "layers", "layer", "hullOf");
    part(
        source, "Asking the figure", "corners", "corner", "area", "edge", "inner", "lies", "width");
    part(
        source, "Polygons", "add", "clear", "isSimple", "polygonArea", "polygonEdge",
        "polygonInner", "polygonLies", "holds", "triangles", "triangleAt", "sees", "view");
    part(source, "Lines", "line", "clearLines", "cross", "crossings", "crossingAt");
    part(source, "Pairs, boxes", "pair", "distance", "box", "fence", "apart");
    part(
        source, "Images, figures, second ways", "image", "restore", "checksum", "meanFar", "fills",
        "errors");
  }

  private void part(String source, String title, String... calls) {
    told.says(
        "Ahead of the calls `" + String.join("`, `", calls) + "` the interface says: ---- " + title
            + ".");
    int begin = source.indexOf("// ---- " + title + "\n");
    due.same("the part is there", begin >= 0, true);
    int end = source.indexOf("// ---- ", begin + 1);
    String part = source.substring(Math.max(begin, 0), end < 0 ? source.length() : end);
    int at = 0;
    for (String call : calls) {
      int found = part.indexOf(" " + call + "(", at);
      due.same("the call is there, in its order: " + call, found >= 0, true);
      at = Math.max(found, at);
    }
  }
}
