/** Tells every answer that is not the one that is due, and ends a test. */
final class Due {
  private static int wrong = 0;
  private static int asked = 0;

  private Due() {}

  /** Called by a test's own due(), so that the line that matters is two calls up. */
  static void due(int promise, int got, int want) {
    asked++;
    if (got == want) return;
    wrong++;
    StackTraceElement line = new Throwable().getStackTrace()[2];
    System.out.println("promise " + promise + ", " + line.getFileName() + " line " + line.getLineNumber()
        + ": answered " + got + ", due is " + want);
  }

  static void close() {
    System.out.println(asked - wrong + " answers of " + asked + " are as due");
    if (wrong != 0) System.exit(1);
  }
}
