import java.util.NoSuchElementException;

/**
 * A yard of points on a grid: hulls and their layers, hulls of two heaps, sums of hulls, polygons
 * with their areas, inner points and triangles, nearest and farthest pairs, crossings of lines,
 * widths and boxes, all in whole numbers.
 */
public final class HullyardSurveys {
  private static final int HEAPS = 3;
  private static final int POINTS = 60;
  private static final int POLYGONS = 4;
  private static final int CORNERS = 16;
  private static final int LINES = 20;
  private static final int FARTHEST = 200;
  private static final int DROPPED = -1;
  private static final int ABOVE_ANY_FENCE = 1000;
  // No figure has more corners than points have come: the sum of a hull with itself has no more
  // than the hull. One more closes the way round while a figure is made.
  private static final int FIGURE_ROOM = POINTS + 1;

  private final Yard yard = new Yard();
  private final Yard imaged = new Yard();
  private boolean hasImage = false;
  private final Row figure = new Row(FIGURE_ROOM);

  // Rows to work with, made once, because all that a run makes is counted.
  private final Row ordered = new Row(POINTS);
  private final Row heights = new Row(POINTS);
  private final Row firstHull = new Row(FIGURE_ROOM);
  private final Row secondHull = new Row(FIGURE_ROOM);
  private final Parting parting = new Parting();
  private final Census census = new Census();

  public HullyardSurveys() {
  }

  // ---- Points

  public int point(int heap, int x, int y) throws IllegalArgumentException, IllegalStateException {
    requireHeap(heap);
    requireNear(x, y);
    if (yard.points.size() >= POINTS) {
      throw new IllegalStateException("60 points have come");
    }
    yard.points.append(x, y, heap);
    return yard.points.size() - 1;
  }

  public int drop(int point) throws IndexOutOfBoundsException {
    requirePoint(point);
    int heap = yard.points.markAt(point);
    yard.points.mark(point, DROPPED);
    return yard.heapSize(heap);
  }

  public int pointOf(int point, int what)
      throws IndexOutOfBoundsException, IllegalArgumentException {
    requirePoint(point);
    switch (what) {
      case 0:
        return yard.points.markAt(point);
      case 1:
        return yard.points.xAt(point);
      case 2:
        return yard.points.yAt(point);
      default:
        throw new IllegalArgumentException("what is out of range");
    }
  }

  public int count(int heap) throws IllegalArgumentException {
    requireHeap(heap);
    return yard.heapSize(heap);
  }

  public int sorted(int heap, int place)
      throws IllegalArgumentException, IndexOutOfBoundsException {
    requireHeap(heap);
    orderHeap(heap);
    if (place < 0 || place >= ordered.size()) {
      throw new IndexOutOfBoundsException("there is no such place");
    }
    return ordered.markAt(place);
  }

  public int places(int heap) throws IllegalArgumentException {
    requireHeap(heap);
    orderHeap(heap);
    int unlike = 0;
    for (int i = 0; i < ordered.size(); i++) {
      if (i == 0 || !ordered.isAt(i - 1, ordered.xAt(i), ordered.yAt(i))) {
        unlike++;
      }
    }
    return unlike;
  }

  public int turn(int a, int b, int c) throws IndexOutOfBoundsException {
    requirePoint(a);
    requirePoint(b);
    requirePoint(c);
    return Plane.side(yard.points, a, b, yard.points, c);
  }

  // ---- Making the figure

  public int hull(int heap) throws IllegalArgumentException, NoSuchElementException {
    requireHeap(heap);
    requireFilled(heap);
    orderHeap(heap);
    Hulls.wrap(ordered, figure);
    return figure.size();
  }

  public int join(int heap, int other) throws IllegalArgumentException, NoSuchElementException {
    requireTwoFilled(heap, other);
    orderHeap(heap);
    if (other != heap) {
      yard.putInOrder(other, ordered);
    }
    Hulls.wrap(ordered, figure);
    return figure.size();
  }

  public int sum(int heap, int other) throws IllegalArgumentException, NoSuchElementException {
    requireTwoFilled(heap, other);
    wrapTwo(heap, other);
    Hulls.addUp(firstHull, secondHull, figure);
    return figure.size();
  }

  public int layers(int heap) throws IllegalArgumentException {
    requireHeap(heap);
    orderHeap(heap);
    int peeled = 0;
    for (int i = 0; i < POINTS && ordered.size() > 0; i++) {
      Hulls.peel(ordered, firstHull);
      peeled++;
    }
    return peeled;
  }

  public int layer(int heap, int layer)
      throws IllegalArgumentException, IndexOutOfBoundsException {
    requireHeap(heap);
    orderHeap(heap);
    int above = Math.min(layer, POINTS);
    for (int i = 0; i < above && ordered.size() > 0; i++) {
      Hulls.peel(ordered, firstHull);
    }
    if (layer < 0 || ordered.size() == 0) {
      throw new IndexOutOfBoundsException("there is no such layer");
    }
    Hulls.wrap(ordered, figure);
    return figure.size();
  }

  public int hullOf(int polygon) throws IllegalArgumentException, NoSuchElementException {
    Row shape = requirePolygon(polygon);
    if (shape.size() == 0) {
      throw new NoSuchElementException("the polygon has no corners");
    }
    ordered.reset();
    for (int i = 0; i < shape.size(); i++) {
      ordered.insertInOrder(shape.xAt(i), shape.yAt(i), i);
    }
    Hulls.wrap(ordered, figure);
    return figure.size();
  }

  // ---- Asking the figure

  public int corners() {
    return figure.size();
  }

  public int corner(int corner, boolean isY) throws IndexOutOfBoundsException {
    requireCorner(figure, corner);
    return isY ? figure.yAt(corner) : figure.xAt(corner);
  }

  public int area() {
    return Shapes.doubledArea(figure);
  }

  public int edge() {
    switch (figure.size()) {
      case 0:
        return 0;
      case 1:
        return 1;
      case 2:
        return Shapes.stepsAlong(figure, 0) + 1;
      default:
        return Shapes.stepsRound(figure);
    }
  }

  public int inner() {
    return Shapes.placesInside(figure);
  }

  public int lies(int x, int y) {
    return Shapes.whereIs(figure, 1, x, y);
  }

  public long width(boolean isUnder) throws IllegalStateException {
    if (figure.size() < 3) {
      throw new IllegalStateException("the figure has fewer than 3 corners");
    }
    return Shapes.squaredWidth(figure, isUnder);
  }

  // ---- Polygons

  public int add(int polygon, int x, int y) throws IllegalArgumentException, IllegalStateException {
    Row shape = requirePolygon(polygon);
    requireNear(x, y);
    if (shape.size() >= CORNERS) {
      throw new IllegalStateException("the polygon has 16 corners");
    }
    shape.append(x, y, shape.size());
    return shape.size();
  }

  public int clear(int polygon) throws IllegalArgumentException {
    Row shape = requirePolygon(polygon);
    int had = shape.size();
    shape.reset();
    return had;
  }

  public boolean isSimple(int polygon) throws IllegalArgumentException {
    return Shapes.closesSimply(requirePolygon(polygon));
  }

  public int polygonArea(int polygon) throws IllegalArgumentException {
    return Shapes.doubledArea(requirePolygon(polygon));
  }

  public int polygonEdge(int polygon) throws IllegalArgumentException, IllegalStateException {
    return Shapes.stepsRound(requireSimple(polygon));
  }

  public int polygonInner(int polygon) throws IllegalArgumentException, IllegalStateException {
    return Shapes.placesInside(requireSimple(polygon));
  }

  public int polygonLies(int polygon, int x, int y)
      throws IllegalArgumentException, IllegalStateException {
    return Shapes.whereIs(requireSimple(polygon), 1, x, y);
  }

  public int holds(int polygon, int heap) throws IllegalArgumentException, IllegalStateException {
    Row shape = requirePolygon(polygon);
    requireHeap(heap);
    requireSimple(polygon);
    int held = 0;
    for (int i = 0; i < yard.points.size(); i++) {
      if (yard.points.markAt(i) == heap
          && Shapes.whereIs(shape, 1, yard.points.xAt(i), yard.points.yAt(i)) >= 0) {
        held++;
      }
    }
    return held;
  }

  public int triangles(int polygon) throws IllegalArgumentException, IllegalStateException {
    parting.part(requireSimple(polygon));
    return parting.made();
  }

  public int triangleAt(int polygon, int triangle)
      throws IllegalArgumentException, IllegalStateException, IndexOutOfBoundsException {
    parting.part(requireSimple(polygon));
    if (triangle < 0 || triangle >= parting.made()) {
      throw new IndexOutOfBoundsException("there is no such triangle");
    }
    return parting.tellTriangle(triangle);
  }

  public boolean sees(int polygon, int corner, int other)
      throws IllegalArgumentException, IndexOutOfBoundsException, IllegalStateException {
    Row shape = requirePolygon(polygon);
    requireCorner(shape, corner);
    requireCorner(shape, other);
    requireSimple(polygon);
    return Shapes.isOpenBetween(shape, corner, other);
  }

  public int view(int polygon, int corner)
      throws IllegalArgumentException, IndexOutOfBoundsException, IllegalStateException {
    Row shape = requirePolygon(polygon);
    requireCorner(shape, corner);
    requireSimple(polygon);
    int seen = 0;
    for (int other = 0; other < shape.size(); other++) {
      if (other != corner && Shapes.isOpenBetween(shape, corner, other)) {
        seen++;
      }
    }
    return seen;
  }

  // ---- Lines

  public int line(int x1, int y1, int x2, int y2)
      throws IllegalArgumentException, IllegalStateException {
    requireNear(x1, y1);
    requireNear(x2, y2);
    if (yard.lineCount() >= LINES) {
      throw new IllegalStateException("there are 20 lines");
    }
    yard.ends.append(x1, y1, 0);
    yard.ends.append(x2, y2, 0);
    return yard.lineCount() - 1;
  }

  public int clearLines() {
    int had = yard.lineCount();
    yard.ends.reset();
    return had;
  }

  public boolean cross(int line, int other) throws IndexOutOfBoundsException {
    requireLine(line);
    requireLine(other);
    return yard.linesMeet(line, other);
  }

  public int crossings() {
    int met = 0;
    for (int line = 0; line < yard.lineCount(); line++) {
      for (int other = line + 1; other < yard.lineCount(); other++) {
        if (yard.linesMeet(line, other)) {
          met++;
        }
      }
    }
    return met;
  }

  public int crossingAt(int place) throws IndexOutOfBoundsException {
    int met = 0;
    for (int line = 0; line < yard.lineCount(); line++) {
      for (int other = line + 1; other < yard.lineCount(); other++) {
        if (yard.linesMeet(line, other)) {
          if (met == place) {
            return 100 * line + other;
          }
          met++;
        }
      }
    }
    throw new IndexOutOfBoundsException("there is no such pair");
  }

  // ---- Pairs, boxes

  public int pair(int heap, boolean isFarthest)
      throws IllegalArgumentException, NoSuchElementException {
    requireHeap(heap);
    requireTwoPoints(heap);
    return yard.extremePair(heap, isFarthest);
  }

  public int distance(int heap, boolean isFarthest)
      throws IllegalArgumentException, NoSuchElementException {
    requireHeap(heap);
    requireTwoPoints(heap);
    int told = yard.extremePair(heap, isFarthest);
    return yard.squaredDistance(told / 100, told % 100);
  }

  public int box(int heap, int what) throws IllegalArgumentException, NoSuchElementException {
    requireHeap(heap);
    if (what < 0 || what > 3) {
      throw new IllegalArgumentException("what is out of range");
    }
    requireFilled(heap);
    orderHeap(heap);
    return Shapes.bound(ordered, what);
  }

  public int fence(int heap, int points) throws IllegalArgumentException, NoSuchElementException {
    requireHeap(heap);
    if (points < 1) {
      throw new IllegalArgumentException("points is below 1");
    }
    orderHeap(heap);
    if (ordered.size() < points) {
      throw new NoSuchElementException("the heap has not so many points");
    }
    int least = ABOVE_ANY_FENCE;
    for (int left = 0; left < ordered.size(); left++) {
      least = Math.min(least, leastFenceFrom(left, points));
    }
    return least;
  }

  public boolean apart(int heap, int other)
      throws IllegalArgumentException, NoSuchElementException {
    requireTwoFilled(heap, other);
    wrapTwo(heap, other);
    return !Hulls.touch(firstHull, secondHull);
  }

  // ---- Images, figures, second ways

  public int image() {
    imaged.copyFrom(yard);
    hasImage = true;
    return yard.points.size();
  }

  public int restore() throws NoSuchElementException {
    if (!hasImage) {
      throw new NoSuchElementException("no image was taken");
    }
    yard.copyFrom(imaged);
    return yard.points.size();
  }

  public int checksum() {
    int total = 17;
    for (int i = 0; i < figure.size(); i++) {
      total = 31 * total + figure.xAt(i);
      total = 31 * total + figure.yAt(i);
    }
    return total;
  }

  public double meanFar(int heap) throws IllegalArgumentException {
    requireHeap(heap);
    orderHeap(heap);
    int points = ordered.size();
    if (points == 0) {
      return 0.0;
    }
    int far = 0;
    for (int i = 0; i < points; i++) {
      far += Math.abs(ordered.xAt(i) - ordered.xAt(0)) + Math.abs(ordered.yAt(i) - ordered.yAt(0));
    }
    return (double) far / (double) points;
  }

  public float fills() {
    int wide = Shapes.bound(figure, 1) - Shapes.bound(figure, 0);
    int high = Shapes.bound(figure, 3) - Shapes.bound(figure, 2);
    int doubledBox = 2 * wide * high;
    if (doubledBox <= 0) {
      return 0.0f;
    }
    return (float) Shapes.doubledArea(figure) / (float) doubledBox;
  }

  public int errors() {
    int found = 0;
    for (int heap = 0; heap < HEAPS; heap++) {
      if (hasStray(heap)) {
        found++;
      }
    }
    for (int polygon = 0; polygon < POLYGONS; polygon++) {
      Row shape = yard.polygonAt(polygon);
      if (Shapes.closesSimply(shape)) {
        found += faultsOf(shape);
      }
    }
    return found;
  }

  // ---- What several calls need

  private static void requireHeap(int heap) {
    if (heap < 0 || heap >= HEAPS) {
      throw new IllegalArgumentException("heap is out of range");
    }
  }

  private static void requireNear(int x, int y) {
    if (x < -FARTHEST || x > FARTHEST || y < -FARTHEST || y > FARTHEST) {
      throw new IllegalArgumentException("x or y is out of range");
    }
  }

  private void requirePoint(int point) {
    if (!yard.hasPoint(point)) {
      throw new IndexOutOfBoundsException("there is no such point");
    }
  }

  private void requireLine(int line) {
    if (line < 0 || line >= yard.lineCount()) {
      throw new IndexOutOfBoundsException("there is no such line");
    }
  }

  private static void requireCorner(Row shape, int corner) {
    if (corner < 0 || corner >= shape.size()) {
      throw new IndexOutOfBoundsException("there is no such corner");
    }
  }

  private void requireFilled(int heap) {
    if (yard.heapSize(heap) == 0) {
      throw new NoSuchElementException("the heap is empty");
    }
  }

  private void requireTwoFilled(int heap, int other) {
    requireHeap(heap);
    requireHeap(other);
    requireFilled(heap);
    requireFilled(other);
  }

  private void requireTwoPoints(int heap) {
    if (yard.heapSize(heap) < 2) {
      throw new NoSuchElementException("the heap has fewer than 2 points");
    }
  }

  private Row requirePolygon(int polygon) {
    if (polygon < 0 || polygon >= POLYGONS) {
      throw new IllegalArgumentException("polygon is out of range");
    }
    return yard.polygonAt(polygon);
  }

  private Row requireSimple(int polygon) {
    Row shape = requirePolygon(polygon);
    if (!Shapes.closesSimply(shape)) {
      throw new IllegalStateException("the polygon is not simple");
    }
    return shape;
  }

  private void orderHeap(int heap) {
    ordered.reset();
    yard.putInOrder(heap, ordered);
  }

  private void wrapTwo(int heap, int other) {
    orderHeap(heap);
    Hulls.wrap(ordered, firstHull);
    orderHeap(other);
    Hulls.wrap(ordered, secondHull);
  }

  /** The least fence whose left side goes through a point, by its place in order. */
  private int leastFenceFrom(int left, int points) {
    int least = ABOVE_ANY_FENCE;
    heights.reset();
    for (int right = left; right < ordered.size(); right++) {
      heights.insertInOrder(ordered.yAt(right), 0, 0);
      int wide = ordered.xAt(right) - ordered.xAt(left);
      for (int low = 0; low + points <= heights.size(); low++) {
        int high = heights.xAt(low + points - 1) - heights.xAt(low);
        least = Math.min(least, wide + high);
      }
    }
    return least;
  }

  private boolean hasStray(int heap) {
    orderHeap(heap);
    Hulls.wrap(ordered, firstHull);
    for (int i = 0; i < ordered.size(); i++) {
      if (Shapes.whereIs(firstHull, 1, ordered.xAt(i), ordered.yAt(i)) < 0) {
        return true;
      }
    }
    return false;
  }

  private int faultsOf(Row shape) {
    int doubled = Math.abs(Shapes.doubledArea(shape));
    int faults = 0;
    if (2 * census.countInside(shape) + Shapes.stepsRound(shape) - 2 != doubled) {
      faults++;
    }
    parting.part(shape);
    if (parting.doubledAreas() != doubled) {
      faults++;
    }
    return faults;
  }

  /** Places in a row, each with a mark. No index outside of it is ever used. */
  private static final class Row {
    private final int[] xs;
    private final int[] ys;
    private final int[] marks;
    private int size = 0;

    Row(int room) {
      int length = Math.max(room, 0);
      xs = new int[length];
      ys = new int[length];
      marks = new int[length];
    }

    int size() {
      return size;
    }

    int xAt(int place) {
      return place >= 0 && place < xs.length ? xs[place] : 0;
    }

    int yAt(int place) {
      return place >= 0 && place < ys.length ? ys[place] : 0;
    }

    int markAt(int place) {
      return place >= 0 && place < marks.length ? marks[place] : 0;
    }

    boolean isAt(int place, int x, int y) {
      return xAt(place) == x && yAt(place) == y;
    }

    int next(int place) {
      return place + 1 < size ? place + 1 : 0;
    }

    int previous(int place) {
      return place > 0 ? place - 1 : size - 1;
    }

    void mark(int place, int mark) {
      if (place >= 0 && place < marks.length) {
        marks[place] = mark;
      }
    }

    void reset() {
      size = 0;
    }

    void shorten() {
      if (size > 0) {
        size--;
      }
    }

    void append(int x, int y, int mark) {
      if (size < xs.length) {
        size++;
        put(size - 1, x, y, mark);
      }
    }

    /** Inserts a place behind those that are not behind it by x, then by y. */
    void insertInOrder(int x, int y, int mark) {
      if (size >= xs.length) {
        return;
      }
      size++;
      int place = size - 1;
      while (place > 0 && isBehind(place - 1, x, y)) {
        put(place, xAt(place - 1), yAt(place - 1), markAt(place - 1));
        place--;
      }
      put(place, x, y, mark);
    }

    void remove(int place) {
      if (place < 0 || place >= size) {
        return;
      }
      for (int i = place; i + 1 < size; i++) {
        put(i, xAt(i + 1), yAt(i + 1), markAt(i + 1));
      }
      size--;
    }

    void copyFrom(Row other) {
      reset();
      for (int i = 0; i < other.size; i++) {
        append(other.xAt(i), other.yAt(i), other.markAt(i));
      }
    }

    private boolean isBehind(int place, int x, int y) {
      return xAt(place) > x || (xAt(place) == x && yAt(place) > y);
    }

    private void put(int place, int x, int y, int mark) {
      if (place >= 0 && place < xs.length && place < ys.length && place < marks.length) {
        xs[place] = x;
        ys[place] = y;
        marks[place] = mark;
      }
    }
  }

  /** What an image keeps: points marked with their heaps, polygons, the two ends of each line. */
  private static final class Yard {
    private final Row points = new Row(POINTS);
    private final Row ends = new Row(2 * LINES);
    private final Row[] polygons = new Row[POLYGONS];
    private final Row blank = new Row(0);

    Yard() {
      for (int i = 0; i < polygons.length; i++) {
        polygons[i] = new Row(CORNERS);
      }
    }

    Row polygonAt(int polygon) {
      Row shape = polygon >= 0 && polygon < polygons.length ? polygons[polygon] : null;
      return shape == null ? blank : shape;
    }

    boolean hasPoint(int point) {
      return point >= 0 && point < points.size() && points.markAt(point) != DROPPED;
    }

    int heapSize(int heap) {
      int found = 0;
      for (int i = 0; i < points.size(); i++) {
        if (points.markAt(i) == heap) {
          found++;
        }
      }
      return found;
    }

    /** Puts the points of a heap into a row, marked with their numbers. */
    void putInOrder(int heap, Row row) {
      for (int i = 0; i < points.size(); i++) {
        if (points.markAt(i) == heap) {
          row.insertInOrder(points.xAt(i), points.yAt(i), i);
        }
      }
    }

    int squaredDistance(int point, int other) {
      int dx = points.xAt(other) - points.xAt(point);
      int dy = points.yAt(other) - points.yAt(point);
      return dx * dx + dy * dy;
    }

    /** The nearest or farthest pair, 100 times the first point plus the second one. */
    int extremePair(int heap, boolean isFarthest) {
      int best = -1;
      int bestDistance = 0;
      for (int i = 0; i < points.size(); i++) {
        if (points.markAt(i) != heap) {
          continue;
        }
        for (int j = i + 1; j < points.size(); j++) {
          if (points.markAt(j) != heap) {
            continue;
          }
          int distance = squaredDistance(i, j);
          boolean isBetter = isFarthest ? distance > bestDistance : distance < bestDistance;
          if (best < 0 || isBetter) {
            best = 100 * i + j;
            bestDistance = distance;
          }
        }
      }
      return best;
    }

    int lineCount() {
      return ends.size() / 2;
    }

    boolean linesMeet(int line, int other) {
      return Plane.meet(ends, 2 * line, 2 * line + 1, ends, 2 * other, 2 * other + 1);
    }

    void copyFrom(Yard other) {
      points.copyFrom(other.points);
      ends.copyFrom(other.ends);
      for (int i = 0; i < POLYGONS; i++) {
        polygonAt(i).copyFrom(other.polygonAt(i));
      }
    }
  }

  /** Turns and stretches. In long, because a place that is asked about may be any number. */
  private static final class Plane {
    /** Twice the area of the triangle a, b, c, above 0 if it turns to the left. */
    static long twist(long ax, long ay, long bx, long by, long cx, long cy) {
      return (bx - ax) * (cy - ay) - (by - ay) * (cx - ax);
    }

    static int signOf(long number) {
      return number > 0 ? 1 : number < 0 ? -1 : 0;
    }

    static boolean isOn(long ax, long ay, long bx, long by, long x, long y) {
      return Math.min(ax, bx) <= x
          && x <= Math.max(ax, bx)
          && Math.min(ay, by) <= y
          && y <= Math.max(ay, by)
          && twist(ax, ay, bx, by, x, y) == 0;
    }

    static boolean isBetween(Row row, int a, int b, Row other, int c) {
      return isOn(row.xAt(a), row.yAt(a), row.xAt(b), row.yAt(b), other.xAt(c), other.yAt(c));
    }

    /** The turn of two places of a row and one of another row. */
    static int side(Row row, int a, int b, Row other, int c) {
      long twist =
          twist(row.xAt(a), row.yAt(a), row.xAt(b), row.yAt(b), other.xAt(c), other.yAt(c));
      return signOf(twist);
    }

    /** Whether two stretches cross at a place that is an end of neither. */
    static boolean passThrough(Row row, int a, int b, Row other, int c, int d) {
      return side(row, a, b, other, c) * side(row, a, b, other, d) < 0
          && side(other, c, d, row, a) * side(other, c, d, row, b) < 0;
    }

    /** Whether two stretches have a place in common; either may be a single place. */
    static boolean meet(Row row, int a, int b, Row other, int c, int d) {
      return passThrough(row, a, b, other, c, d)
          || isBetween(row, a, b, other, c)
          || isBetween(row, a, b, other, d)
          || isBetween(other, c, d, row, a)
          || isBetween(other, c, d, row, b);
    }

    /** The greatest number that divides both; 0 of two zeros. */
    static long commonDivisor(long one, long two) {
      long greater = Math.abs(one);
      long lesser = Math.abs(two);
      // Each two steps halve the greater one, so 128 are enough for any long.
      for (int i = 0; i < 128 && lesser != 0; i++) {
        long rest = greater % lesser;
        greater = lesser;
        lesser = rest;
      }
      return greater;
    }
  }

  /** Hulls: rows of corners that begin with the first one in order and go round to the left. */
  private static final class Hulls {
    /** Fills a row with the corners of the hull of places that are in order. */
    static void wrap(Row places, Row hull) {
      hull.reset();
      for (int i = 0; i < places.size(); i++) {
        bendTo(hull, 1, places.xAt(i), places.yAt(i));
      }
      int under = hull.size();
      for (int i = places.size() - 2; i >= 0; i--) {
        bendTo(hull, under, places.xAt(i), places.yAt(i));
      }
      if (hull.size() > 1) {
        // The way back has ended at the first corner again.
        hull.shorten();
      }
    }

    private static void bendTo(Row hull, int kept, int x, int y) {
      int last = hull.size() - 1;
      if (last >= 0 && hull.isAt(last, x, y)) {
        return;
      }
      while (last >= kept && !turnsLeft(hull, last, x, y)) {
        hull.shorten();
        last--;
      }
      hull.append(x, y, 0);
    }

    private static boolean turnsLeft(Row hull, int last, int x, int y) {
      return Plane.twist(
              hull.xAt(last - 1), hull.yAt(last - 1), hull.xAt(last), hull.yAt(last), x, y)
          > 0;
    }

    /** Makes the hull of places that are in order and takes those on its edge away. */
    static void peel(Row places, Row hull) {
      wrap(places, hull);
      for (int i = places.size() - 1; i >= 0; i--) {
        if (Shapes.whereIs(hull, 1, places.xAt(i), places.yAt(i)) <= 0) {
          places.remove(i);
        }
      }
    }

    /** The sum of two hulls: the edges of both, by their directions, one behind the other. */
    static void addUp(Row one, Row two, Row total) {
      int ones = one.size() > 1 ? one.size() : 0;
      int twos = two.size() > 1 ? two.size() : 0;
      int x = one.xAt(0) + two.xAt(0);
      int y = one.yAt(0) + two.yAt(0);
      total.reset();
      total.append(x, y, 0);
      int i = 0;
      int j = 0;
      for (int step = 0; step < ones + twos && (i < ones || j < twos); step++) {
        int first = i >= ones ? 1 : j >= twos ? -1 : compareEdges(one, i, two, j);
        if (first <= 0) {
          x += Shapes.runOf(one, i);
          y += Shapes.riseOf(one, i);
          i++;
        }
        if (first >= 0) {
          x += Shapes.runOf(two, j);
          y += Shapes.riseOf(two, j);
          j++;
        }
        total.append(x, y, 0);
      }
      if (total.size() > 1) {
        // The last edge has ended at the first corner again.
        total.shorten();
      }
    }

    /** Below 0 if the first edge comes ahead of the second one on the way round a hull. */
    private static int compareEdges(Row one, int i, Row two, int j) {
      int run = Shapes.runOf(one, i);
      int rise = Shapes.riseOf(one, i);
      int otherRun = Shapes.runOf(two, j);
      int otherRise = Shapes.riseOf(two, j);
      int half = goesOut(run, rise) ? 0 : 1;
      int otherHalf = goesOut(otherRun, otherRise) ? 0 : 1;
      if (half != otherHalf) {
        return half - otherHalf;
      }
      return -Plane.signOf((long) run * otherRise - (long) rise * otherRun);
    }

    /** Whether an edge leads to a place that is behind in order. */
    private static boolean goesOut(int run, int rise) {
      return run > 0 || (run == 0 && rise > 0);
    }

    static boolean touch(Row one, Row two) {
      if (hasCornerIn(one, two) || hasCornerIn(two, one)) {
        return true;
      }
      for (int i = 0; i < one.size(); i++) {
        for (int j = 0; j < two.size(); j++) {
          if (Plane.meet(one, i, one.next(i), two, j, two.next(j))) {
            return true;
          }
        }
      }
      return false;
    }

    private static boolean hasCornerIn(Row one, Row two) {
      for (int i = 0; i < one.size(); i++) {
        if (Shapes.whereIs(two, 1, one.xAt(i), one.yAt(i)) >= 0) {
          return true;
        }
      }
      return false;
    }
  }

  /** Closed rows of corners: polygons, and the figure. */
  private static final class Shapes {
    static int runOf(Row shape, int edge) {
      return shape.xAt(shape.next(edge)) - shape.xAt(edge);
    }

    static int riseOf(Row shape, int edge) {
      return shape.yAt(shape.next(edge)) - shape.yAt(edge);
    }

    static long twistOf(Row shape, int a, int b, int c) {
      return Plane.twist(
          shape.xAt(a), shape.yAt(a), shape.xAt(b), shape.yAt(b), shape.xAt(c), shape.yAt(c));
    }

    static int doubledArea(Row shape) {
      int doubled = 0;
      for (int i = 0; i < shape.size(); i++) {
        int next = shape.next(i);
        doubled += shape.xAt(i) * shape.yAt(next) - shape.yAt(i) * shape.xAt(next);
      }
      return doubled;
    }

    /** How many steps from place to place an edge has. */
    static int stepsAlong(Row shape, int edge) {
      return (int) Plane.commonDivisor(runOf(shape, edge), riseOf(shape, edge));
    }

    static int stepsRound(Row shape) {
      int steps = 0;
      for (int i = 0; i < shape.size(); i++) {
        steps += stepsAlong(shape, i);
      }
      return steps;
    }

    /** The places inside, by the theorem of Pick; 0 if there are fewer than 3 corners. */
    static int placesInside(Row shape) {
      if (shape.size() < 3) {
        return 0;
      }
      return (Math.abs(doubledArea(shape)) - stepsRound(shape) + 2) / 2;
    }

    /**
     * Where the place x / scale, y / scale lies: 1 inside, 0 on the edge, -1 outside. A stretch and
     * a place have an edge alone: their edges go there and back, so nothing is inside.
     */
    static int whereIs(Row shape, int scale, long x, long y) {
      boolean isInside = false;
      for (int i = 0; i < shape.size(); i++) {
        int next = shape.next(i);
        long ax = (long) scale * shape.xAt(i);
        long ay = (long) scale * shape.yAt(i);
        long bx = (long) scale * shape.xAt(next);
        long by = (long) scale * shape.yAt(next);
        if (Plane.isOn(ax, ay, bx, by, x, y)) {
          return 0;
        }
        if ((ay > y) != (by > y)) {
          boolean isLeft = Plane.twist(ax, ay, bx, by, x, y) > 0;
          if (isLeft == (by > ay)) {
            isInside = !isInside;
          }
        }
      }
      return isInside ? 1 : -1;
    }

    /** The least or greatest x or y, numbered as the box tells them; 0 of nothing. */
    static int bound(Row row, int what) {
      int bound = 0;
      for (int i = 0; i < row.size(); i++) {
        int number = what < 2 ? row.xAt(i) : row.yAt(i);
        boolean isFarther = what % 2 == 0 ? number < bound : number > bound;
        if (i == 0 || isFarther) {
          bound = number;
        }
      }
      return bound;
    }

    /** A number of the squared width of a convex polygon, a fraction in lowest terms. */
    static long squaredWidth(Row shape, boolean isUnder) {
      long over = 0;
      long under = 0;
      for (int i = 0; i < shape.size(); i++) {
        long run = runOf(shape, i);
        long rise = riseOf(shape, i);
        long length = run * run + rise * rise;
        long reach = reachFrom(shape, i);
        // A side of a convex polygon lies along one of the two lines of the least distance.
        if (i == 0 || reach * reach * under < over * length) {
          over = reach * reach;
          under = length;
        }
      }
      long divisor = Plane.commonDivisor(over, under);
      if (divisor == 0) {
        return 0;
      }
      return isUnder ? under / divisor : over / divisor;
    }

    private static long reachFrom(Row shape, int edge) {
      long reach = 0;
      for (int i = 0; i < shape.size(); i++) {
        reach = Math.max(reach, twistOf(shape, edge, shape.next(edge), i));
      }
      return reach;
    }

    /**
     * Whether a row of corners is a simple polygon. Two corners at one place need no look of their
     * own: an edge there folds back, or two edges that are no neighbours meet.
     */
    static boolean closesSimply(Row shape) {
      if (shape.size() < 3) {
        return false;
      }
      for (int i = 0; i < shape.size(); i++) {
        if (foldsBack(shape, i)) {
          return false;
        }
        for (int j = i + 1; j < shape.size(); j++) {
          boolean areNeighbours = shape.next(i) == j || shape.next(j) == i;
          if (!areNeighbours && Plane.meet(shape, i, shape.next(i), shape, j, shape.next(j))) {
            return false;
          }
        }
      }
      return true;
    }

    /** Whether the edges at a corner have more in common than this corner. */
    private static boolean foldsBack(Row shape, int corner) {
      int previous = shape.previous(corner);
      int next = shape.next(corner);
      return Plane.isBetween(shape, corner, next, shape, previous)
          || Plane.isBetween(shape, previous, corner, shape, next);
    }

    /** Whether no place of the stretch between two corners of a simple polygon is outside. */
    static boolean isOpenBetween(Row shape, int corner, int other) {
      for (int i = 0; i < shape.size(); i++) {
        if (Plane.passThrough(shape, corner, other, shape, i, shape.next(i))) {
          return false;
        }
      }
      // The corners on the stretch cut it into parts of which each is as its middle is. The middles
      // of several parts together are looked at, too, which is no harm.
      for (int i = 0; i < shape.size(); i++) {
        if (!Plane.isBetween(shape, corner, other, shape, i)) {
          continue;
        }
        for (int j = i + 1; j < shape.size(); j++) {
          if (Plane.isBetween(shape, corner, other, shape, j) && whereIsMiddle(shape, i, j) < 0) {
            return false;
          }
        }
      }
      return true;
    }

    private static int whereIsMiddle(Row shape, int corner, int other) {
      // At twice the size the middle is on the grid.
      long x = (long) shape.xAt(corner) + shape.xAt(other);
      long y = (long) shape.yAt(corner) + shape.yAt(other);
      return whereIs(shape, 2, x, y);
    }
  }

  /** The parting of a simple polygon into triangles. */
  private static final class Parting {
    private final Row left = new Row(CORNERS);
    private final int[] told = new int[CORNERS];
    private int made = 0;
    private long doubledAreas = 0;

    void part(Row shape) {
      left.copyFrom(shape);
      made = 0;
      doubledAreas = 0;
      int way = Plane.signOf(Shapes.doubledArea(shape));
      for (int i = 0; i < CORNERS && left.size() > 3; i++) {
        int ear = firstEar(way);
        if (ear < 0) {
          return;
        }
        keepTriangle(left.previous(ear), ear, left.next(ear));
        left.remove(ear);
      }
      if (left.size() == 3) {
        keepTriangle(0, 1, 2);
      }
    }

    int made() {
      return made;
    }

    long doubledAreas() {
      return doubledAreas;
    }

    int tellTriangle(int triangle) {
      return triangle >= 0 && triangle < told.length ? told[triangle] : 0;
    }

    private void keepTriangle(int ahead, int ear, int behind) {
      if (made < told.length) {
        told[made] = 10000 * left.markAt(ahead) + 100 * left.markAt(ear) + left.markAt(behind);
        made++;
      }
      doubledAreas += Math.abs(Shapes.twistOf(left, ahead, ear, behind));
    }

    private int firstEar(int way) {
      for (int i = 0; i < left.size(); i++) {
        if (isEar(i, way)) {
          return i;
        }
      }
      return -1;
    }

    private boolean isEar(int corner, int way) {
      int ahead = left.previous(corner);
      int behind = left.next(corner);
      if (Plane.side(left, ahead, corner, left, behind) != way) {
        return false;
      }
      for (int i = 0; i < left.size(); i++) {
        boolean isOther = i != ahead && i != corner && i != behind;
        if (isOther
            && way * Plane.side(left, ahead, corner, left, i) >= 0
            && way * Plane.side(left, corner, behind, left, i) >= 0
            && way * Plane.side(left, behind, ahead, left, i) >= 0) {
          return false;
        }
      }
      return true;
    }
  }

  /**
   * Counts the places inside of a simple polygon row by row. A place of a row is inside if it is
   * inside just above the row and just below it, which leaves out whatever lies on the edge.
   */
  private static final class Census {
    private final Row above = new Row(CORNERS);
    private final Row below = new Row(CORNERS);

    int countInside(Row shape) {
      int top = Shapes.bound(shape, 3);
      int inside = 0;
      for (int y = Shapes.bound(shape, 2); y <= top; y++) {
        cut(shape, y, true, above);
        cut(shape, y, false, below);
        inside += countCommon();
      }
      return inside;
    }

    /**
     * Collects where the edges that go on above the row, or below it, meet the row: 2 * x on a
     * place, 2 * x + 1 between the places x and x + 1.
     */
    private static void cut(Row shape, int y, boolean isAbove, Row cuts) {
      cuts.reset();
      for (int i = 0; i < shape.size(); i++) {
        boolean goesUp = Shapes.riseOf(shape, i) > 0;
        int low = goesUp ? i : shape.next(i);
        int high = goesUp ? shape.next(i) : i;
        int rise = shape.yAt(high) - shape.yAt(low);
        int up = y - shape.yAt(low);
        boolean goesOn = isAbove ? up >= 0 && up < rise : up > 0 && up <= rise;
        if (goesOn && rise > 0) {
          int run = shape.xAt(high) - shape.xAt(low);
          int scaled = shape.xAt(low) * rise + up * run;
          cuts.insertInOrder(Math.floorDiv(scaled, rise) - Math.floorDiv(-scaled, rise), 0, 0);
        }
      }
    }

    private int countCommon() {
      int common = 0;
      for (int i = 0; i + 1 < above.size(); i += 2) {
        for (int j = 0; j + 1 < below.size(); j += 2) {
          int first = Math.max(firstInside(above, i), firstInside(below, j));
          int last = Math.min(lastInside(above, i), lastInside(below, j));
          common += Math.max(last - first + 1, 0);
        }
      }
      return common;
    }

    private static int firstInside(Row cuts, int cut) {
      return Math.floorDiv(cuts.xAt(cut), 2) + 1;
    }

    private static int lastInside(Row cuts, int cut) {
      return Math.floorDiv(cuts.xAt(cut + 1) + 1, 2) - 1;
    }
  }
}
