import java.io.IOException;
import java.lang.reflect.Constructor;
import java.lang.reflect.Field;
import java.lang.reflect.Method;
import java.lang.reflect.Modifier;
import java.nio.charset.StandardCharsets;
import java.nio.file.Files;
import java.nio.file.Path;
import java.util.TreeSet;

/** The public face: what the document has, and nothing else. */
public final class FaceTest {
  private static final String[] FACE = {
    "int point(int,int,int)", "int drop(int)", "int pointOf(int,int)", "int count(int)",
    "int sorted(int,int)", "int places(int)", "int turn(int,int,int)", "int hull(int)",
    "int join(int,int)", "int sum(int,int)", "int layers(int)", "int layer(int,int)",
    "int hullOf(int)", "int corners()", "int corner(int,boolean)", "int area()", "int edge()",
    "int inner()", "int lies(int,int)", "long width(boolean)", "int add(int,int,int)",
    "int clear(int)", "boolean isSimple(int)", "int polygonArea(int)", "int polygonEdge(int)",
    "int polygonInner(int)", "int polygonLies(int,int,int)", "int holds(int,int)",
    "int triangles(int)", "int triangleAt(int,int)", "boolean sees(int,int,int)",
    "int view(int,int)", "int line(int,int,int,int)", "int clearLines()", "boolean cross(int,int)",
    "int crossings()", "int crossingAt(int)", "int pair(int,boolean)", "int distance(int,boolean)",
    "int box(int,int)", "int fence(int,int)", "boolean apart(int,int)", "int image()",
    "int restore()", "int checksum()", "double meanFar(int)", "float fills()", "int errors()",
  };

  private final Due due = new Due();
  private final TreeSet<String> faceNames = new TreeSet<>();

  public static void main(String[] args) throws IOException {
    FaceTest test = new FaceTest();
    test.signatures();
    test.methods();
    test.others();
    test.classesInside();
    test.due.end();
  }

  /** Each line of the document's face stands in the source, word for word. */
  private void signatures() throws IOException {
    if (!Files.exists(Told.DOCUMENT)) {
      return;
    }
    Path program = Path.of("src", "main", "java", "HullyardSurveys.java");
    String source = Files.readString(program, StandardCharsets.UTF_8).replaceAll("\\s+", " ");
    int found = 0;
    for (String line : Files.readAllLines(Told.DOCUMENT, StandardCharsets.UTF_8)) {
      if (line.startsWith("    public ") && line.endsWith(";")) {
        String signature = line.strip().replace(";", " {");
        due.same("stands in the source: " + signature, source.contains(signature), true);
        found++;
      }
    }
    due.same("lines of the face", found, FACE.length + 1);
  }

  private void methods() {
    TreeSet<String> want = new TreeSet<>();
    for (String method : FACE) {
      want.add(method);
    }
    TreeSet<String> got = new TreeSet<>();
    for (Method method : HullyardSurveys.class.getDeclaredMethods()) {
      if (!Modifier.isPrivate(method.getModifiers())) {
        got.add(told(method));
        faceNames.add(method.getName());
        due.same("is public: " + method, Modifier.isPublic(method.getModifiers()), true);
        due.same("is static: " + method, Modifier.isStatic(method.getModifiers()), false);
      }
    }
    due.sameText("the methods", got.toString(), want.toString());
  }

  private static String told(Method method) {
    StringBuilder told = new StringBuilder();
    told.append(method.getReturnType().getName()).append(' ').append(method.getName()).append('(');
    String comma = "";
    for (Class<?> type : method.getParameterTypes()) {
      told.append(comma).append(type.getName());
      comma = ",";
    }
    return told.append(')').toString();
  }

  private void others() {
    int modifiers = HullyardSurveys.class.getModifiers();
    due.same("the class is public", Modifier.isPublic(modifiers), true);
    due.same("the class is final", Modifier.isFinal(modifiers), true);
    Constructor<?>[] constructors = HullyardSurveys.class.getDeclaredConstructors();
    due.same("constructors", constructors.length, 1);
    due.same("its numbers", constructors[0].getParameterCount(), 0);
    due.same("it is public", Modifier.isPublic(constructors[0].getModifiers()), true);
    noStaticState(HullyardSurveys.class);
    for (Field field : HullyardSurveys.class.getDeclaredFields()) {
      due.same("is private: " + field, Modifier.isPrivate(field.getModifiers()), true);
    }
  }

  private void noStaticState(Class<?> type) {
    for (Field field : type.getDeclaredFields()) {
      boolean isStatic = Modifier.isStatic(field.getModifiers());
      boolean isConstant = Modifier.isFinal(field.getModifiers()) && field.getType().isPrimitive();
      due.same("is no static state: " + field, !isStatic || isConstant, true);
    }
  }

  private void classesInside() {
    Class<?>[] inside = HullyardSurveys.class.getDeclaredClasses();
    due.same("few classes inside", inside.length <= 11, true);
    for (Class<?> type : inside) {
      int modifiers = type.getModifiers();
      due.same("is static: " + type, Modifier.isStatic(modifiers), true);
      due.same("is not public: " + type, Modifier.isPublic(modifiers), false);
      noStaticState(type);
      namesOf(type);
    }
    namesOf(HullyardSurveys.class);
  }

  /** No method of its own bears the name of one of the face. */
  private void namesOf(Class<?> type) {
    for (Method method : type.getDeclaredMethods()) {
      boolean isFace =
          type == HullyardSurveys.class && Modifier.isPublic(method.getModifiers());
      due.same(
          "has a name of its own: " + method, isFace || !faceNames.contains(method.getName()), true);
    }
  }
}
