/** Counts answers that are not the due ones; a test ends with exit code 1 if there was one. */
final class Check {
  private static int asked = 0;
  private static int wrong = 0;

  private Check() {}

  interface Call {
    Object answer();
  }

  static final Class<IllegalStateException> STATE = IllegalStateException.class;
  static final Class<IllegalArgumentException> ARGUMENT = IllegalArgumentException.class;
  static final Class<IndexOutOfBoundsException> INDEX = IndexOutOfBoundsException.class;
  static final Class<UnsupportedOperationException> UNSUPPORTED =
      UnsupportedOperationException.class;
  static final Class<ArithmeticException> ARITHMETIC = ArithmeticException.class;
  static final Class<java.util.NoSuchElementException> ELEMENT =
      java.util.NoSuchElementException.class;

  static void is(String what, Object got, Object due) {
    asked++;
    if (!due.equals(got)) {
      wrong++;
      System.out.println(what + " answered " + got + ", due is " + due);
    }
  }

  static void refuses(String what, Class<? extends RuntimeException> due, Call call) {
    is(what, answerOf(call), "throws." + due.getSimpleName());
  }

  /** What the call answers, or the name of what it throws behind "throws.". */
  static Object answerOf(Call call) {
    try {
      return call.answer();
    } catch (RuntimeException e) {
      return "throws." + e.getClass().getSimpleName();
    }
  }

  static void end(String test) {
    System.out.println(test + ": " + asked + " answers, " + wrong + " not as due");
    if (wrong != 0) {
      System.exit(1);
    }
  }
}
