/** What every test of the project shares: it counts and prints the calls whose answer is not due. */
final class Due {
  interface Call {
    Object answer();
  }

  static final String BOUNDS = "throws.IndexOutOfBoundsException";
  static final String ARGUMENT = "throws.IllegalArgumentException";
  static final String STATE = "throws.IllegalStateException";

  private static int wrong = 0;
  private static int looked = 0;
  private static String heading = "";

  private Due() {
  }

  /** The words that go ahead of what is told as not due. */
  static void under(String words) {
    heading = words.isEmpty() ? "" : words + "\n    ";
  }

  static int looked() {
    return looked;
  }

  /** The answer as a text; of an exception its exact class, so that a machine's own never passes. */
  static String told(Call call) {
    try {
      return String.valueOf(call.answer());
    } catch (RuntimeException e) {
      return "throws." + e.getClass().getSimpleName();
    }
  }

  static void is(String name, Call call, Object want) {
    looked++;
    String got = told(call);
    if (!got.equals(String.valueOf(want))) {
      wrong++;
      System.out.println(heading + name + " answered " + got + ", due is " + want);
    }
  }

  /** A refused or throwing call: its answer is due, and nothing may have changed. */
  static void isAndLeavesAll(String name, Splicemonoid x, Call call, Object want) {
    long before = x.digest();
    is(name, call, want);
    is(name + " leaves all as it was", x::digest, before);
  }

  static Splicemonoid rows(int[]... rows) {
    Splicemonoid x = new Splicemonoid();
    for (int row = 0; row < rows.length; row++) {
      for (int item : rows[row]) {
        x.add(row, item);
      }
    }
    return x;
  }

  static int[] row(int... items) {
    return items;
  }

  static void end(String test) {
    System.out.println(test + ": " + looked + " looked at, " + wrong + " not as due");
    if (wrong != 0) {
      System.exit(1);
    }
  }
}
