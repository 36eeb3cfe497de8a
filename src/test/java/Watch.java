/** What becomes of windows and cursors: an act is done where all kinds of them look on. */
final class Watch {
  private static final int[] WHERES = {0, 4, 5, 6};
  private static final String ALL = "windows 4 5 6 7, cursors 0 1 2";

  private Watch() {
  }

  /**
   * Row 0 is 26 down to 20; 4 sees all but its first and last ones, 5 and 6 two of that each, side
   * by side; 7 sees row 1. Cursor 0 goes over row 0, 1 over the where (the first one is LAST), 2
   * over 7.
   */
  static Splicemonoid at(int where) {
    Splicemonoid x = Due.rows(Due.row(26, 25, 24, 23, 22, 21, 20), Due.row(30, 31, 30));
    x.window(0, 0, 1, 6);
    x.window(1, 4, 1, 3);
    x.window(2, 4, 3, 5);
    x.window(3, 1, 0, 3);
    x.open(0, 0, 0);
    x.open(1, where, 0);
    x.next(1);
    x.open(2, 7, 2);
    return x;
  }

  private static String standing(Splicemonoid x) {
    StringBuilder seen = new StringBuilder("windows");
    for (int window = 0; window < 4; window++) {
      seen.append(x.ofWindow(window, 0) == -1 ? "" : " " + (window + 4));
    }
    seen.append(", cursors");
    for (int cursor = 0; cursor < 3; cursor++) {
      seen.append(x.ofCursor(cursor, 0) == -1 ? "" : " " + cursor);
    }
    return seen.toString();
  }

  private static String holders(int where) {
    switch (where) {
      case 0:
        return "windows 7";
      case 4:
        return "windows 4 7";
      default:
        return "windows 4 " + where + " 7";
    }
  }

  private static void isDone(Splicemonoid x, Scene.Numbered act, int number) {
    String told = Due.told(() -> act.told(x, number));
    Due.is("it is done: " + told, () -> told.startsWith("throws.") || told.equals("-9"), false);
  }

  static void isChange(Scene.Numbered act) {
    for (int where : WHERES) {
      Splicemonoid x = at(where);
      isDone(x, act, where);
      Due.is("a change in " + where, () -> standing(x), holders(where) + ", cursors 2");
      holdersGrew(x, where);
    }
  }

  /** The act is one of cursor 1. */
  static void isChangeByCursor(Scene.Ask act) {
    for (int where : WHERES) {
      Splicemonoid x = at(where);
      isDone(x, (y, number) -> act.told(y), where);
      Due.is("a change over " + where, () -> standing(x), holders(where) + ", cursors 1 2");
      holdersGrew(x, where);
    }
  }

  /** Holders have as many items more or less, and what is not in the where stands as it stood. */
  private static void holdersGrew(Splicemonoid x, int where) {
    Splicemonoid before = at(where);
    int more = x.size(where) - before.size(where);
    int start = where == 0 ? 0 : where == 4 ? 1 : where == 5 ? 2 : 4;
    Due.is("items of the row", () -> x.size(0), 7 + more);
    if (where > 4) {
      Due.is("items of the ground", () -> x.size(4), 5 + more);
    }
    for (int i = 0; i < start; i++) {
      int place = i;
      Due.is("ahead of it, " + place, () -> x.get(0, place), before.get(0, place));
    }
    for (int i = start + before.size(where); i < 7; i++) {
      int place = i;
      Due.is("behind it, " + place, () -> x.get(0, place + more), before.get(0, place));
    }
    for (int i = 0; i < x.size(where); i++) {
      int place = i;
      Due.is("in it, " + place, () -> x.get(where, place), x.get(0, start + place));
    }
  }

  /** Nothing goes, nothing moves, and each window sees what stands in its part of the row. */
  static void isNoChange(Scene.Numbered act) {
    for (int where : WHERES) {
      Splicemonoid x = at(where);
      isDone(x, act, where);
      Due.is("no change in " + where, () -> standing(x), ALL);
      Due.is("the index over it", () -> x.ofCursor(1, 1), 1);
      Due.is("the index over the row", () -> x.ofCursor(0, 1), 0);
      for (int i = 0; i < 5; i++) {
        int place = i;
        Due.is("4 sees " + place, () -> x.get(4, place), x.get(0, place + 1));
      }
      for (int i = 0; i < 2; i++) {
        int place = i;
        Due.is("5 sees " + place, () -> x.get(5, place), x.get(0, place + 2));
        Due.is("6 sees " + place, () -> x.get(6, place), x.get(0, place + 4));
      }
      Due.is("the cursor tells", () -> x.previous(1), x.get(where, 0));
    }
  }

  /** The act is done to row 0, and to row 1: each time that one alone becomes another one. */
  static void isAnother(Scene.Numbered act) {
    Splicemonoid x = at(5);
    isDone(x, act, 0);
    Due.is("row 0 is another one", () -> standing(x), "windows 7, cursors 2");
    Splicemonoid y = at(6);
    isDone(y, act, 1);
    Due.is("row 1 is another one", () -> standing(y), "windows 4 5 6, cursors 0 1");
  }
}
