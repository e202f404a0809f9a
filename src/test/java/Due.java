/** Compares answers with those that are due, prints what is wrong, and ends the run. */
final class Due {
  private int asked = 0;
  private int wrong = 0;
  private String sentence = "";

  /** Sets the sentence of the document that the next answers are about. */
  void about(String told) {
    sentence = told;
  }

  int asked() {
    return asked;
  }

  void same(String call, long got, long want) {
    asked++;
    if (got != want) {
      tell(call + " answered " + got + ", due is " + want);
    }
  }

  void same(String call, boolean got, boolean want) {
    same(call, got ? 1 : 0, want ? 1 : 0);
  }

  /** Compares to the last bit: what is promised is one quotient of two whole numbers. */
  void sameReal(String call, double got, double want) {
    asked++;
    if (Double.doubleToLongBits(got) != Double.doubleToLongBits(want)) {
      tell(call + " answered " + got + ", due is " + want);
    }
  }

  void sameText(String call, String got, String want) {
    asked++;
    if (!got.equals(want)) {
      tell(call + " answered " + got + ", due is " + want);
    }
  }

  /** The exception must be of this very class: what the machine throws is of a class below it. */
  void raises(String call, Class<? extends RuntimeException> due, Runnable body) {
    asked++;
    try {
      body.run();
    } catch (RuntimeException thrown) {
      if (thrown.getClass() != due) {
        tell(call + " threw " + thrown.getClass().getName() + ", due is " + due.getName());
      }
      return;
    }
    tell(call + " threw nothing, due is " + due.getName());
  }

  void end() {
    System.out.println(asked + " answers, " + wrong + " not as due");
    if (wrong != 0) {
      System.exit(1);
    }
  }

  void tell(String text) {
    wrong++;
    if (wrong <= 40) {
      System.out.println("  " + (sentence.isEmpty() ? "" : "[" + sentence + "] ") + text);
    }
  }
}
