/** Compares answers with those that are due, prints what is wrong, and ends the run. */
final class Due {
  private int asked = 0;
  private int wrong = 0;

  void same(String call, long got, long want) {
    asked++;
    if (got != want) {
      tell(call + " answered " + got + ", due is " + want);
    }
  }

  void same(String call, boolean got, boolean want) {
    same(call, got ? 1 : 0, want ? 1 : 0);
  }

  /** Compares to the last bit: what is promised is one quotient of two whole numbers. */
  void sameReal(String call, double got, double want) {
    asked++;
    if (Double.doubleToLongBits(got) != Double.doubleToLongBits(want)) {
      tell(call + " answered " + got + ", due is " + want);
    }
  }

  void sameText(String call, String got, String want) {
    asked++;
    if (!got.equals(want)) {
      tell(call + " answered " + got + ", due is " + want);
    }
  }

  /** The exception must be of this very class: what the machine throws is of a class below it. */
  void raises(String call, Class<? extends RuntimeException> due, Runnable body) {
    asked++;
    try {
      body.run();
    } catch (RuntimeException thrown) {
      if (thrown.getClass() != due) {
        tell(call + " threw " + thrown.getClass().getName() + ", due is " + due.getName());
      }
      return;
    }
    tell(call + " threw nothing, due is " + due.getName());
  }

  /** The same, and what can be asked of the object is the same before and after. */
  void refuses(
      HullyardSurveys yard, String call, Class<? extends RuntimeException> due, Runnable body) {
    String before = look(yard);
    raises(call, due, body);
    sameText("what can be asked after " + call, look(yard), before);
  }

  /** What can be asked without a change; some 50 calls. */
  static String look(HullyardSurveys yard) {
    StringBuilder seen = new StringBuilder();
    seen.append("figure ").append(yard.corners()).append(' ').append(yard.checksum());
    for (int heap = 0; heap < 3; heap++) {
      seen.append(" heap ").append(yard.count(heap)).append(' ').append(yard.meanFar(heap));
      if (yard.count(heap) > 0) {
        for (int what = 0; what < 4; what++) {
          seen.append(' ').append(yard.box(heap, what));
        }
      }
    }
    for (int polygon = 0; polygon < 4; polygon++) {
      seen.append(" polygon ").append(yard.polygonArea(polygon));
      seen.append(' ').append(yard.isSimple(polygon));
    }
    seen.append(" lines ").append(yard.crossings());
    return seen.toString();
  }

  void end() {
    System.out.println(asked + " answers, " + wrong + " not as due");
    if (wrong != 0) {
      System.exit(1);
    }
  }

  private void tell(String text) {
    wrong++;
    if (wrong <= 40) {
      System.out.println("  " + text);
    }
  }
}
