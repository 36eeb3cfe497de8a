/** An object with something of each kind in it, and how it is seen that a call left all of it. */
final class Scene {
  interface Maker {
    Splicemonoid made();
  }

  interface Ask {
    Object told(Splicemonoid x);
  }

  interface Numbered {
    Object told(Splicemonoid x, int number);
  }

  static final int LOW = Integer.MIN_VALUE;
  static final int HIGH = Integer.MAX_VALUE;

  private static final int[] WRONG_WHERES = {LOW, -1, 6, 8, HIGH};
  private static final int[] WINDOWS_AS_WHERES = {4, 5, 6, 7};
  private static final int[] WRONG_ROWS = {LOW, -1, 4, 5, 6, 7, 8, HIGH};

  private Scene() {
  }

  /**
   * Row 1 is short, row 2 has no items, row 3 is full. Where 4 is a window of row 0, 5 one of that,
   * 6 was there and is closed, 7 is one of row 3. Cursor 0 has LAST ahead of it, 1 behind it, 2 was
   * there and is shut.
   */
  static Splicemonoid furnished() {
    Splicemonoid x = Due.rows(Due.row(10, 11, 12, 13, 14, 15), Due.row(7, 8));
    x.places(3, 12);
    x.window(0, 0, 1, 5);
    x.window(1, 4, 1, 3);
    x.window(2, 1, 0, 1);
    x.close(2);
    x.window(3, 3, 2, 5);
    x.open(0, 5, 0);
    x.next(0);
    x.open(1, 3, 12);
    x.previous(1);
    x.open(2, 1, 1);
    x.shut(2);
    x.knock();
    return x;
  }

  /** The same, and 6 is a window without items in the midst of row 0. */
  static Splicemonoid withEmptyWindow() {
    Splicemonoid x = furnished();
    x.window(2, 0, 3, 3);
    return x;
  }

  /** All that can be told of an object. It is of no use behind this: LAST is replaced. */
  static String readOut(Splicemonoid x) {
    StringBuilder seen = new StringBuilder();
    addRows(seen, x);
    for (int what = 0; what < 4; what++) {
      seen.append(" house ").append(x.house(what));
    }
    for (int window = 0; window < 4; window++) {
      seen.append("\n    window ").append(window).append(':');
      for (int what = 0; what < 3; what++) {
        seen.append(' ').append(x.ofWindow(window, what));
      }
      for (int place = 0; place < x.ofWindow(window, 2); place++) {
        seen.append(" item ").append(x.get(window + 4, place));
      }
    }
    for (int cursor = 0; cursor < 3; cursor++) {
      seen.append("\n    cursor ").append(cursor).append(':');
      for (int what = 0; what < 5; what++) {
        seen.append(' ').append(x.ofCursor(cursor, what));
      }
    }
    // No call tells LAST: it shows in what takes its place.
    for (int cursor = 0; cursor < 3; cursor++) {
      int at = cursor;
      seen.append("\n    LAST replaced: ").append(Due.told(() -> x.replace(at, 90 + at)));
      addRows(seen, x);
    }
    return seen.toString();
  }

  private static void addRows(StringBuilder seen, Splicemonoid x) {
    for (int row = 0; row < 4; row++) {
      seen.append(' ').append(x.text(row));
    }
  }

  /** The answer is due, and all is as it is in an object of which this was not asked. */
  static void leaves(String name, Maker maker, Ask ask, Object want) {
    Splicemonoid x = maker.made();
    Due.is(name, () -> ask.told(x), want);
    Due.is(name + " leaves all as it was", () -> readOut(x), readOut(maker.made()));
  }

  static void each(String name, int[] numbers, Maker maker, Numbered ask, Object want) {
    for (int number : numbers) {
      leaves(name + " " + number, maker, x -> ask.told(x, number), want);
    }
  }

  /** It is done, or told: at least it throws nothing. */
  static void goes(String name, Maker maker, Ask ask) {
    Due.is(name, () -> Due.told(() -> ask.told(maker.made())).startsWith("throws."), false);
  }

  static void noSuchWhere(Numbered ask) {
    each("where", WRONG_WHERES, Scene::furnished, ask, Due.BOUNDS);
    each("a window that never was there", WINDOWS_AS_WHERES, Splicemonoid::new, ask, Due.BOUNDS);
  }

  /** A window is no row, also if it is there. */
  static void noSuchRow(Numbered ask) {
    each("row", WRONG_ROWS, Scene::furnished, ask, Due.BOUNDS);
  }

  static void noSuchPlace(int where, Numbered ask) {
    int many = withEmptyWindow().size(where);
    int[] places = {LOW, -1, many, many + 1, HIGH};
    each("place of " + where + ":", places, Scene::withEmptyWindow, ask, Due.BOUNDS);
  }

  static void noSuchItem(Numbered ask) {
    noSuchNumber(-99, 99, ask);
  }

  /** Those at the limits are taken, those beyond them are not. */
  static void noSuchNumber(int least, int most, Numbered ask) {
    int[] numbers = {LOW, least - 1, most + 1, HIGH};
    each("number", numbers, Scene::furnished, ask, Due.ARGUMENT);
    goes("the least, " + least, Scene::furnished, x -> ask.told(x, least));
    goes("the greatest, " + most, Scene::furnished, x -> ask.told(x, most));
  }

  static void noSuchIndex(int most, Numbered ask) {
    each("index", new int[] {LOW, -1, most + 1, HIGH}, Scene::furnished, ask, Due.BOUNDS);
  }
}
