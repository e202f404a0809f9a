import java.math.BigInteger;
import java.util.ArrayList;
import java.util.Collections;
import java.util.Comparator;
import java.util.HashSet;
import java.util.List;
import java.util.NoSuchElementException;
import java.util.Set;
import java.util.TreeSet;

/**
 * A slow yard that does everything by plain definition, and, where it can, in another way than the
 * class: hulls from all pairs, places counted one by one, crossings by fractions.
 */
public final class Twin {
  private static final Comparator<int[]> BY_PLACE =
      Comparator.<int[]>comparingInt(p -> p[0]).thenComparingInt(p -> p[1]);

  /** x, y, heap, number; a heap of -1 is none. */
  private List<int[]> points = new ArrayList<>();
  private List<List<int[]>> polygons = new ArrayList<>();
  private List<int[]> lines = new ArrayList<>();
  private List<int[]> figure = new ArrayList<>();
  private List<int[]> imagePoints = null;
  private List<List<int[]>> imagePolygons = null;
  private List<int[]> imageLines = null;

  public Twin() {
    for (int i = 0; i < 4; i++) {
      polygons.add(new ArrayList<>());
    }
  }

  // ---- Points

  public int point(int heap, int x, int y) {
    range(heap, 0, 2);
    range(x, -200, 200);
    range(y, -200, 200);
    state(points.size() < 60);
    points.add(new int[] {x, y, heap, points.size()});
    return points.size() - 1;
  }

  public int drop(int point) {
    int[] dropped = there(point);
    int heap = dropped[2];
    dropped[2] = -1;
    return heapOf(heap).size();
  }

  public int pointOf(int point, int what) {
    int[] asked = there(point);
    range(what, 0, 2);
    return asked[new int[] {2, 0, 1}[what]];
  }

  public int count(int heap) {
    range(heap, 0, 2);
    return heapOf(heap).size();
  }

  public int sorted(int heap, int place) {
    range(heap, 0, 2);
    List<int[]> row = orderOf(heap);
    index(place, row.size());
    return row.get(place)[3];
  }

  public int places(int heap) {
    range(heap, 0, 2);
    Set<Integer> unlike = new HashSet<>();
    for (int[] point : heapOf(heap)) {
      unlike.add(point[0] * 1000 + point[1]);
    }
    return unlike.size();
  }

  public int turn(int a, int b, int c) {
    return turnOf(there(a), there(b), there(c));
  }

  // ---- Making the figure

  public int hull(int heap) {
    range(heap, 0, 2);
    return make(wrap(filled(heap)));
  }

  public int join(int heap, int other) {
    range(heap, 0, 2);
    range(other, 0, 2);
    List<int[]> both = new ArrayList<>(filled(heap));
    both.addAll(filled(other));
    return make(wrap(both));
  }

  public int sum(int heap, int other) {
    range(heap, 0, 2);
    range(other, 0, 2);
    List<int[]> one = wrap(filled(heap));
    List<int[]> two = wrap(filled(other));
    List<int[]> sums = new ArrayList<>();
    for (int[] a : one) {
      for (int[] b : two) {
        sums.add(new int[] {a[0] + b[0], a[1] + b[1]});
      }
    }
    return make(wrap(sums));
  }

  public int layers(int heap) {
    range(heap, 0, 2);
    return layersOf(heap).size();
  }

  public int layer(int heap, int layer) {
    range(heap, 0, 2);
    List<List<int[]>> all = layersOf(heap);
    index(layer, all.size());
    return make(all.get(layer));
  }

  public int hullOf(int polygon) {
    List<int[]> shape = shape(polygon);
    some(!shape.isEmpty());
    return make(wrap(shape));
  }

  // ---- Asking the figure

  public int corners() {
    return figure.size();
  }

  public int corner(int corner, boolean isY) {
    index(corner, figure.size());
    return figure.get(corner)[isY ? 1 : 0];
  }

  public int area() {
    return areaOf(figure);
  }

  public int edge() {
    return edgePlaces(figure);
  }

  public int inner() {
    return innerPlaces(figure);
  }

  public int lies(int x, int y) {
    if (figure.size() < 3) {
      return isOnEdge(figure, x, y, 1) ? 0 : -1;
    }
    int least = 1;
    for (int i = 0; i < figure.size(); i++) {
      int[] a = figure.get(i);
      int[] b = figure.get((i + 1) % figure.size());
      BigInteger left = times(b[0] - a[0], (long) y - a[1]);
      BigInteger right = times(b[1] - a[1], (long) x - a[0]);
      least = Math.min(least, left.compareTo(right));
    }
    return least;
  }

  public long width(boolean isUnder) {
    state(figure.size() >= 3);
    BigInteger over = null;
    BigInteger under = null;
    for (int[] a : figure) {
      for (int[] b : figure) {
        if (a == b) {
          continue;
        }
        long least = Long.MAX_VALUE;
        long most = Long.MIN_VALUE;
        for (int[] c : figure) {
          long reach = twist(a, b, c);
          least = Math.min(least, reach);
          most = Math.max(most, reach);
        }
        BigInteger top = times(most - least, most - least);
        BigInteger bottom = BigInteger.valueOf(squared(a, b));
        if (over == null || top.multiply(under).compareTo(over.multiply(bottom)) < 0) {
          over = top;
          under = bottom;
        }
      }
    }
    BigInteger divisor = over.gcd(under);
    return (isUnder ? under : over).divide(divisor).longValueExact();
  }

  // ---- Polygons

  public int add(int polygon, int x, int y) {
    List<int[]> shape = shape(polygon);
    range(x, -200, 200);
    range(y, -200, 200);
    state(shape.size() < 16);
    shape.add(new int[] {x, y});
    return shape.size();
  }

  public int clear(int polygon) {
    int had = shape(polygon).size();
    shape(polygon).clear();
    return had;
  }

  public boolean isSimple(int polygon) {
    return isSimple(shape(polygon));
  }

  public int polygonArea(int polygon) {
    return areaOf(shape(polygon));
  }

  public int polygonEdge(int polygon) {
    return edgePlaces(simple(polygon));
  }

  public int polygonInner(int polygon) {
    return innerPlaces(simple(polygon));
  }

  public int polygonLies(int polygon, int x, int y) {
    return where(simple(polygon), x, y, 1);
  }

  public int holds(int polygon, int heap) {
    List<int[]> shape = shape(polygon);
    range(heap, 0, 2);
    simple(polygon);
    int held = 0;
    for (int[] point : heapOf(heap)) {
      if (where(shape, point[0], point[1], 1) != -1) {
        held++;
      }
    }
    return held;
  }

  public int triangles(int polygon) {
    return parted(simple(polygon)).size();
  }

  public int triangleAt(int polygon, int triangle) {
    List<Integer> parts = parted(simple(polygon));
    index(triangle, parts.size());
    return parts.get(triangle);
  }

  public boolean sees(int polygon, int corner, int other) {
    List<int[]> shape = shape(polygon);
    index(corner, shape.size());
    index(other, shape.size());
    simple(polygon);
    return isOpen(shape, shape.get(corner), shape.get(other));
  }

  public int view(int polygon, int corner) {
    List<int[]> shape = shape(polygon);
    index(corner, shape.size());
    simple(polygon);
    int seen = 0;
    for (int[] other : shape) {
      if (isOpen(shape, shape.get(corner), other)) {
        seen++;
      }
    }
    return seen - 1;
  }

  // ---- Lines

  public int line(int x1, int y1, int x2, int y2) {
    for (int number : new int[] {x1, y1, x2, y2}) {
      range(number, -200, 200);
    }
    state(lines.size() < 20);
    lines.add(new int[] {x1, y1, x2, y2});
    return lines.size() - 1;
  }

  public int clearLines() {
    int had = lines.size();
    lines.clear();
    return had;
  }

  public boolean cross(int line, int other) {
    index(line, lines.size());
    index(other, lines.size());
    int[] a = lines.get(line);
    int[] b = lines.get(other);
    return common(
            new int[] {a[0], a[1]}, new int[] {a[2], a[3]},
            new int[] {b[0], b[1]}, new int[] {b[2], b[3]})
        > 0;
  }

  public int crossings() {
    return crossed().size();
  }

  public int crossingAt(int place) {
    List<Integer> pairs = crossed();
    index(place, pairs.size());
    return pairs.get(place);
  }

  // ---- Pairs, boxes

  public int pair(int heap, boolean isFarthest) {
    int[] best = bestPair(heap, isFarthest);
    return 100 * best[1] + best[2];
  }

  public int distance(int heap, boolean isFarthest) {
    return Math.abs(bestPair(heap, isFarthest)[0]);
  }

  public int box(int heap, int what) {
    range(heap, 0, 2);
    range(what, 0, 3);
    TreeSet<Integer> numbers = new TreeSet<>();
    for (int[] point : filled(heap)) {
      numbers.add(point[what / 2]);
    }
    return what % 2 == 0 ? numbers.first() : numbers.last();
  }

  public int fence(int heap, int wanted) {
    range(heap, 0, 2);
    range(wanted, 1, Integer.MAX_VALUE);
    List<int[]> row = heapOf(heap);
    some(row.size() >= wanted);
    TreeSet<Integer> xs = new TreeSet<>();
    TreeSet<Integer> ys = new TreeSet<>();
    for (int[] point : row) {
      xs.add(point[0]);
      ys.add(point[1]);
    }
    int least = Integer.MAX_VALUE;
    for (int left : xs) {
      for (int right : xs.tailSet(left)) {
        for (int low : ys) {
          for (int high : ys.tailSet(low)) {
            int held = 0;
            for (int[] p : row) {
              if (left <= p[0] && p[0] <= right && low <= p[1] && p[1] <= high) {
                held++;
              }
            }
            if (held >= wanted) {
              least = Math.min(least, right - left + high - low);
            }
          }
        }
      }
    }
    return least;
  }

  /** Two hulls are apart if there is a direction along which the one ends ahead of the other. */
  public boolean apart(int heap, int other) {
    range(heap, 0, 2);
    range(other, 0, 2);
    List<int[]> one = filled(heap);
    List<int[]> two = filled(other);
    List<int[]> all = new ArrayList<>(one);
    all.addAll(two);
    for (int[] a : all) {
      for (int[] b : all) {
        int dx = b[0] - a[0];
        int dy = b[1] - a[1];
        if (isParted(one, two, dx, dy) || isParted(one, two, -dy, dx)) {
          return true;
        }
      }
    }
    return false;
  }

  // ---- Images, figures, second ways

  public int image() {
    imagePoints = copy(points);
    imagePolygons = new ArrayList<>();
    for (List<int[]> shape : polygons) {
      imagePolygons.add(copy(shape));
    }
    imageLines = copy(lines);
    return points.size();
  }

  public int restore() {
    some(imagePoints != null);
    points = copy(imagePoints);
    polygons = new ArrayList<>();
    for (List<int[]> shape : imagePolygons) {
      polygons.add(copy(shape));
    }
    lines = copy(imageLines);
    return points.size();
  }

  public int checksum() {
    int total = 17;
    for (int[] corner : figure) {
      total = (total * 31 + corner[0]) * 31 + corner[1];
    }
    return total;
  }

  public double meanFar(int heap) {
    range(heap, 0, 2);
    List<int[]> row = orderOf(heap);
    if (row.isEmpty()) {
      return 0.0;
    }
    long far = 0;
    for (int[] point : row) {
      far += Math.abs(point[0] - row.get(0)[0]) + Math.abs(point[1] - row.get(0)[1]);
    }
    return (double) far / row.size();
  }

  public float fills() {
    if (figure.size() < 3) {
      return 0.0f;
    }
    TreeSet<Integer> xs = new TreeSet<>();
    TreeSet<Integer> ys = new TreeSet<>();
    for (int[] corner : figure) {
      xs.add(corner[0]);
      ys.add(corner[1]);
    }
    int box = (xs.last() - xs.first()) * (ys.last() - ys.first());
    return (float) areaOf(figure) / (float) (2 * box);
  }

  public int errors() {
    return 0;
  }

  // ---- What the test asks beside

  /** Whether a polygon would be simple with a corner put in ahead of one of its own. */
  boolean staysSimple(List<int[]> shape, int at, int x, int y) {
    List<int[]> longer = new ArrayList<>(shape);
    longer.add(at, new int[] {x, y});
    return isSimple(longer);
  }

  int pointsCome() {
    return points.size();
  }

  // ---- Exceptions

  private static void range(int number, int least, int most) {
    if (number < least || number > most) {
      throw new IllegalArgumentException();
    }
  }

  private static void index(int number, int size) {
    if (number < 0 || number >= size) {
      throw new IndexOutOfBoundsException();
    }
  }

  private static void state(boolean isFit) {
    if (!isFit) {
      throw new IllegalStateException();
    }
  }

  private static void some(boolean isThere) {
    if (!isThere) {
      throw new NoSuchElementException();
    }
  }

  private int[] there(int point) {
    index(point, points.size());
    index(points.get(point)[2], 3);
    return points.get(point);
  }

  private List<int[]> shape(int polygon) {
    range(polygon, 0, 3);
    return polygons.get(polygon);
  }

  private List<int[]> simple(int polygon) {
    List<int[]> shape = shape(polygon);
    state(isSimple(shape));
    return shape;
  }

  private List<int[]> filled(int heap) {
    List<int[]> row = heapOf(heap);
    some(!row.isEmpty());
    return row;
  }

  // ---- Heaps and hulls

  private List<int[]> heapOf(int heap) {
    List<int[]> row = new ArrayList<>();
    for (int[] point : points) {
      if (point[2] == heap) {
        row.add(point);
      }
    }
    return row;
  }

  private List<int[]> orderOf(int heap) {
    List<int[]> row = heapOf(heap);
    row.sort(BY_PLACE.thenComparingInt(p -> p[3]));
    return row;
  }

  private int make(List<int[]> corners) {
    figure = corners;
    return corners.size();
  }

  /** From all pairs of places: a pair is a side if all others are left of it, or between it. */
  private static List<int[]> wrap(List<int[]> places) {
    TreeSet<int[]> unlike = new TreeSet<>(BY_PLACE);
    for (int[] place : places) {
      unlike.add(new int[] {place[0], place[1]});
    }
    List<int[]> corners = new ArrayList<>();
    int[] corner = unlike.first();
    do {
      corners.add(corner);
      corner = sideFrom(unlike, corner);
    } while (corner != null && corner != unlike.first());
    return corners;
  }

  private static int[] sideFrom(TreeSet<int[]> places, int[] from) {
    for (int[] to : places) {
      boolean isSide = to != from;
      for (int[] place : places) {
        int turn = turnOf(from, to, place);
        isSide = isSide && (turn > 0 || (turn == 0 && isBetween(from, to, place[0], place[1], 1)));
      }
      if (isSide) {
        return to;
      }
    }
    return null;
  }

  private List<List<int[]>> layersOf(int heap) {
    List<List<int[]>> all = new ArrayList<>();
    List<int[]> left = heapOf(heap);
    while (!left.isEmpty()) {
      List<int[]> hull = wrap(left);
      all.add(hull);
      left.removeIf(p -> isOnEdge(hull, p[0], p[1], 1));
    }
    return all;
  }

  private static boolean isParted(List<int[]> one, List<int[]> two, int dx, int dy) {
    int most = Integer.MIN_VALUE;
    int least = Integer.MAX_VALUE;
    for (int[] a : one) {
      most = Math.max(most, a[0] * dx + a[1] * dy);
    }
    for (int[] b : two) {
      least = Math.min(least, b[0] * dx + b[1] * dy);
    }
    return most < least;
  }

  // ---- Closed rows of corners

  private static int areaOf(List<int[]> shape) {
    long doubled = 0;
    for (int i = 2; i < shape.size(); i++) {
      doubled += twist(shape.get(0), shape.get(i - 1), shape.get(i));
    }
    return (int) doubled;
  }

  private static int edgePlaces(List<int[]> shape) {
    Set<Integer> found = new HashSet<>();
    for (int i = 0; i < shape.size(); i++) {
      int[] a = shape.get(i);
      int[] b = shape.get((i + 1) % shape.size());
      int wide = Math.abs(b[0] - a[0]);
      int high = Math.abs(b[1] - a[1]);
      int steps = Math.max(Math.max(wide, high), 1);
      for (int step = 0; step <= steps; step++) {
        if (wide * step % steps == 0 && high * step % steps == 0) {
          int x = a[0] + (b[0] - a[0]) * step / steps;
          int y = a[1] + (b[1] - a[1]) * step / steps;
          found.add(x * 2000 + y);
        }
      }
    }
    return found.size();
  }

  private static int innerPlaces(List<int[]> shape) {
    int inside = 0;
    int[] box = boxOf(shape);
    for (int x = box[0]; x <= box[1]; x++) {
      for (int y = box[2]; y <= box[3]; y++) {
        if (where(shape, x, y, 1) == 1) {
          inside++;
        }
      }
    }
    return inside;
  }

  private static int[] boxOf(List<int[]> shape) {
    int[] box = {0, -1, 0, -1};
    for (int i = 0; i < shape.size(); i++) {
      int[] corner = shape.get(i);
      box[0] = i == 0 ? corner[0] : Math.min(box[0], corner[0]);
      box[1] = i == 0 ? corner[0] : Math.max(box[1], corner[0]);
      box[2] = i == 0 ? corner[1] : Math.min(box[2], corner[1]);
      box[3] = i == 0 ? corner[1] : Math.max(box[3], corner[1]);
    }
    return box;
  }

  /** How often the shape goes round the place x / under, y / under, as it is seen along y. */
  private static int where(List<int[]> shape, long x, long y, long under) {
    if (isOnEdge(shape, x, y, under)) {
      return 0;
    }
    int round = 0;
    for (int i = 0; i < shape.size(); i++) {
      int[] a = shape.get(i);
      int[] b = shape.get((i + 1) % shape.size());
      boolean isPast = a[0] * under > x;
      boolean isNextPast = b[0] * under > x;
      if (isPast != isNextPast) {
        long side = (b[0] - a[0]) * (y - a[1] * under) - (b[1] - a[1]) * (x - a[0] * under);
        if (isNextPast && side < 0) {
          round++;
        } else if (isPast && side > 0) {
          round--;
        }
      }
    }
    return round != 0 ? 1 : -1;
  }

  private static boolean isOnEdge(List<int[]> shape, long x, long y, long under) {
    for (int i = 0; i < shape.size(); i++) {
      if (isBetween(shape.get(i), shape.get((i + 1) % shape.size()), x, y, under)) {
        return true;
      }
    }
    return false;
  }

  /** Whether the way from a to the place and on to b is no way round. */
  private static boolean isBetween(int[] a, int[] b, long x, long y, long under) {
    long toX = x - a[0] * under;
    long toY = y - a[1] * under;
    long onX = b[0] * under - x;
    long onY = b[1] * under - y;
    boolean isStraight = (b[0] - a[0]) * toY == (b[1] - a[1]) * toX;
    boolean isForthX = Long.signum(toX) * Long.signum(onX) >= 0;
    boolean isForthY = Long.signum(toY) * Long.signum(onY) >= 0;
    boolean isThere = !(a[0] == b[0] && a[1] == b[1]) || (toX == 0 && toY == 0);
    return isStraight && isForthX && isForthY && isThere;
  }

  private static boolean isSimple(List<int[]> shape) {
    int size = shape.size();
    if (size < 3) {
      return false;
    }
    for (int i = 0; i < size; i++) {
      for (int j = 0; j < i; j++) {
        if (BY_PLACE.compare(shape.get(i), shape.get(j)) == 0) {
          return false;
        }
        int had =
            common(
                shape.get(i), shape.get((i + 1) % size), shape.get(j), shape.get((j + 1) % size));
        boolean areNeighbours = i - j == 1 || i - j == size - 1;
        if (had > (areNeighbours ? 1 : 0)) {
          return false;
        }
      }
    }
    return true;
  }

  /** How many places two stretches have in common: 0, 1, or 2 for more. */
  private static int common(int[] a, int[] b, int[] c, int[] d) {
    long rx = b[0] - a[0];
    long ry = b[1] - a[1];
    long sx = d[0] - c[0];
    long sy = d[1] - c[1];
    long under = rx * sy - ry * sx;
    if (under != 0) {
      long sign = Long.signum(under);
      long t = sign * ((c[0] - a[0]) * sy - (c[1] - a[1]) * sx);
      long u = sign * ((c[0] - a[0]) * ry - (c[1] - a[1]) * rx);
      boolean isIn = 0 <= t && t <= sign * under && 0 <= u && u <= sign * under;
      return isIn ? 1 : 0;
    }
    if (rx == 0 && ry == 0) {
      return isBetween(c, d, a[0], a[1], 1) ? 1 : 0;
    }
    if (rx * (c[1] - a[1]) != ry * (c[0] - a[0])) {
      return 0;
    }
    int axis = rx != 0 ? 0 : 1;
    int from = Math.max(Math.min(a[axis], b[axis]), Math.min(c[axis], d[axis]));
    int to = Math.min(Math.max(a[axis], b[axis]), Math.max(c[axis], d[axis]));
    return from > to ? 0 : from == to ? 1 : 2;
  }

  private static List<Integer> parted(List<int[]> shape) {
    List<Integer> left = new ArrayList<>();
    for (int i = 0; i < shape.size(); i++) {
      left.add(i);
    }
    int way = Integer.signum(areaOf(shape));
    List<Integer> told = new ArrayList<>();
    boolean isOver = false;
    while (left.size() > 3 && !isOver) {
      isOver = true;
      for (int i = 0; i < left.size() && isOver; i++) {
        int ahead = left.get((i + left.size() - 1) % left.size());
        int ear = left.get(i);
        int behind = left.get((i + 1) % left.size());
        if (isEar(shape, left, way, ahead, ear, behind)) {
          told.add(10000 * ahead + 100 * ear + behind);
          left.remove(i);
          isOver = false;
        }
      }
    }
    if (left.size() == 3) {
      told.add(10000 * left.get(0) + 100 * left.get(1) + left.get(2));
    }
    return told;
  }

  private static boolean isEar(
      List<int[]> shape, List<Integer> left, int way, int ahead, int ear, int behind) {
    List<int[]> triangle = List.of(shape.get(ahead), shape.get(ear), shape.get(behind));
    if (Integer.signum(areaOf(triangle)) != way) {
      return false;
    }
    for (int other : left) {
      boolean isOwn = other == ahead || other == ear || other == behind;
      if (!isOwn && where(triangle, shape.get(other)[0], shape.get(other)[1], 1) != -1) {
        return false;
      }
    }
    return true;
  }

  /** Cuts the stretch wherever it meets an edge, and looks at the middle of each part. */
  private static boolean isOpen(List<int[]> shape, int[] from, int[] to) {
    List<long[]> cuts = new ArrayList<>();
    cuts.add(new long[] {0, 1});
    cuts.add(new long[] {1, 1});
    long rx = to[0] - from[0];
    long ry = to[1] - from[1];
    for (int i = 0; i < shape.size(); i++) {
      int[] c = shape.get(i);
      int[] d = shape.get((i + 1) % shape.size());
      long sx = d[0] - c[0];
      long sy = d[1] - c[1];
      long under = rx * sy - ry * sx;
      if (under != 0 && common(from, to, c, d) == 1) {
        long over = (c[0] - from[0]) * sy - (c[1] - from[1]) * sx;
        cuts.add(under > 0 ? new long[] {over, under} : new long[] {-over, -under});
      } else if (under == 0 && isBetween(from, to, c[0], c[1], 1)) {
        long length = rx * rx + ry * ry;
        cuts.add(new long[] {(c[0] - from[0]) * rx + (c[1] - from[1]) * ry, Math.max(length, 1)});
      }
    }
    cuts.sort((a, b) -> times(a[0], b[1]).compareTo(times(b[0], a[1])));
    for (int i = 0; i + 1 < cuts.size(); i++) {
      long[] a = cuts.get(i);
      long[] b = cuts.get(i + 1);
      long over = a[0] * b[1] + b[0] * a[1];
      long under = 2 * a[1] * b[1];
      long divisor = BigInteger.valueOf(over).gcd(BigInteger.valueOf(under)).longValue();
      over /= divisor;
      under /= divisor;
      if (where(shape, from[0] * under + rx * over, from[1] * under + ry * over, under) == -1) {
        return false;
      }
    }
    return true;
  }

  private List<Integer> crossed() {
    List<Integer> pairs = new ArrayList<>();
    for (int i = 0; i < lines.size(); i++) {
      for (int j = 0; j < i; j++) {
        if (cross(i, j)) {
          pairs.add(100 * j + i);
        }
      }
    }
    Collections.sort(pairs);
    return pairs;
  }

  private int[] bestPair(int heap, boolean isFarthest) {
    range(heap, 0, 2);
    List<int[]> row = heapOf(heap);
    some(row.size() >= 2);
    List<int[]> pairs = new ArrayList<>();
    for (int[] a : row) {
      for (int[] b : row) {
        if (a[3] < b[3]) {
          int squared = (int) squared(a, b);
          pairs.add(new int[] {isFarthest ? -squared : squared, a[3], b[3]});
        }
      }
    }
    return Collections.min(
        pairs,
        Comparator.<int[]>comparingInt(p -> p[0])
            .thenComparingInt(p -> p[1])
            .thenComparingInt(p -> p[2]));
  }

  // ---- Numbers

  private static long twist(int[] a, int[] b, int[] c) {
    return (long) (b[0] - a[0]) * (c[1] - a[1]) - (long) (b[1] - a[1]) * (c[0] - a[0]);
  }

  private static int turnOf(int[] a, int[] b, int[] c) {
    return Long.signum(twist(a, b, c));
  }

  private static long squared(int[] a, int[] b) {
    long dx = b[0] - a[0];
    long dy = b[1] - a[1];
    return dx * dx + dy * dy;
  }

  private static BigInteger times(long one, long two) {
    return BigInteger.valueOf(one).multiply(BigInteger.valueOf(two));
  }

  private static List<int[]> copy(List<int[]> row) {
    List<int[]> copied = new ArrayList<>();
    for (int[] entry : row) {
      copied.add(entry.clone());
    }
    return copied;
  }
}
