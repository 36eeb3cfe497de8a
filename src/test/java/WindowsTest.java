/** Promises 36 to 38: windows, and what becomes of them. */
public final class WindowsTest {
  private interface Act {
    void on(Splicemonoid x, int where);
  }

  public static void main(String[] args) {
    promise36Window();
    promise36Reopened();
    promise36Wrong();
    promise37Close();
    promise38OfWindow();
    changesKeepHoldersAlone();
    otherActsKeepAll();
    anotherRowIsLeft();
    windowsFollowTheirGround();
    Due.end("WindowsTest");
  }

  /** Row 0 is 0 to 9; 4 sees 1 to 9 of it, 5 sees 3 to 7 of it, 6 sees 1 to 3 of that; 7 sees row 0. */
  private static Splicemonoid nested() {
    Splicemonoid x = new Splicemonoid();
    x.places(0, 10);
    x.window(0, 0, 1, 9);
    x.window(1, 4, 2, 6);
    x.window(2, 5, 1, 3);
    x.window(3, 0, 0, 10);
    return x;
  }

  private static String sizes(Splicemonoid x) {
    StringBuilder signs = new StringBuilder();
    for (int window = 0; window < 4; window++) {
      signs.append(x.ofWindow(window, 2)).append(' ');
    }
    return signs.toString();
  }

  private static void promise36Window() {
    Splicemonoid x = nested();
    Due.is("get(4, 0)", () -> x.get(4, 0), 1);
    Due.is("get(5, 0)", () -> x.get(5, 0), 3);
    Due.is("get(6, 0)", () -> x.get(6, 0), 4);
    Due.is("get(6, 1)", () -> x.get(6, 1), 5);
    Due.is("sizes", () -> sizes(x), "8 4 2 10 ");
    Due.is("of none at the end", () -> x.window(3, 0, 10, 10), 0);
    Due.is("of none in none", () -> x.window(3, 1, 0, 0), 0);
    Due.is("of all", () -> x.window(3, 6, 0, 2), 2);
    x.set(7, 1, -1);
    Due.is("what is done in it is done there", () -> x.text(0), "[0, 1, 2, 3, 4, -1, 6, 7, 8, 9]");
    x.set(0, 4, -2);
    Due.is("and seen in it", () -> x.get(7, 0), -2);
  }

  private static void promise36Reopened() {
    Splicemonoid x = nested();
    x.open(0, 5, 0);
    x.open(1, 6, 0);
    x.open(2, 4, 0);
    Due.is("5 anew", () -> x.window(1, 0, 0, 1), 1);
    Due.is("what it held is gone", () -> sizes(x), "8 1 -1 10 ");
    Due.is("the cursor over it is gone", () -> x.ofCursor(0, 0), -1);
    Due.is("the cursor over what it held is gone", () -> x.ofCursor(1, 0), -1);
    Due.is("the cursor over its ground stands", () -> x.ofCursor(2, 0), 4);
    Due.is("5 in its old ground", () -> x.window(1, 4, 0, 8), 8);
    Due.is("5 in another row", () -> x.window(1, 3, 0, 0), 0);
    Due.is("its row", () -> x.ofWindow(1, 1), 3);
  }

  private static void promise36Wrong() {
    Splicemonoid x = nested();
    x.open(0, 5, 0);
    Due.isAndLeavesAll("from -1", x, () -> x.window(1, 0, -1, 1), -9);
    Due.isAndLeavesAll("from above to", x, () -> x.window(1, 0, 2, 1), -9);
    Due.isAndLeavesAll("to above the row", x, () -> x.window(1, 0, 0, 11), -9);
    Due.isAndLeavesAll("to above the ground", x, () -> x.window(1, 4, 0, 9), -9);
    Due.isAndLeavesAll("far", x, () -> x.window(1, 0, Integer.MIN_VALUE, Integer.MAX_VALUE), -9);
    Due.isAndLeavesAll("itself", x, () -> x.window(1, 5, 0, 0), Due.STATE);
    Due.isAndLeavesAll("its own", x, () -> x.window(1, 6, 0, 0), Due.STATE);
    Due.isAndLeavesAll("its own's own", x, () -> x.window(0, 6, 0, 0), Due.STATE);
    Due.isAndLeavesAll("ahead of REFUSED", x, () -> x.window(1, 6, 5, 0), Due.STATE);
    Due.isAndLeavesAll("window 4", x, () -> x.window(4, 5, 0, 0), Due.BOUNDS);
    Due.isAndLeavesAll("window -1", x, () -> x.window(-1, 5, 0, 0), Due.BOUNDS);
    Due.isAndLeavesAll("where 8", x, () -> x.window(0, 8, 0, 0), Due.BOUNDS);
    Due.isAndLeavesAll("where -1", x, () -> x.window(0, -1, 0, 0), Due.BOUNDS);
    x.close(3);
    Due.isAndLeavesAll("a ground that is not there", x, () -> x.window(0, 7, 0, 0), Due.BOUNDS);
    Due.isAndLeavesAll("itself, not there", x, () -> x.window(3, 7, 0, 0), Due.BOUNDS);
  }

  private static void promise37Close() {
    Splicemonoid x = nested();
    x.open(0, 6, 1);
    x.open(1, 4, 1);
    x.open(2, 0, 1);
    Due.is("close(1)", () -> x.close(1), 2);
    Due.is("sizes", () -> sizes(x), "8 -1 -1 10 ");
    Due.is("the cursor over what it held", () -> x.ofCursor(0, 0), -1);
    Due.is("the cursor over its ground", () -> x.ofCursor(1, 0), 4);
    Due.isAndLeavesAll("close(1) again", x, () -> x.close(1), -9);
    Due.is("close(0)", () -> x.close(0), 1);
    Due.is("the cursor over it", () -> x.ofCursor(1, 0), -1);
    Due.is("the cursor over the row", () -> x.ofCursor(2, 0), 0);
    Due.is("the items stand", () -> x.size(0), 10);
    Due.is("close(3)", () -> x.close(3), 0);
    Due.isAndLeavesAll("close(4)", x, () -> x.close(4), Due.BOUNDS);
    Due.isAndLeavesAll("close(-1)", x, () -> x.close(-1), Due.BOUNDS);
  }

  private static void promise38OfWindow() {
    Splicemonoid x = nested();
    x.window(3, 2, 0, 0);
    Due.is("ground 0", () -> x.ofWindow(0, 0), 0);
    Due.is("ground of 1", () -> x.ofWindow(1, 0), 4);
    Due.is("ground of 2", () -> x.ofWindow(2, 0), 5);
    Due.is("row of 2", () -> x.ofWindow(2, 1), 0);
    Due.is("row of 3", () -> x.ofWindow(3, 1), 2);
    Due.is("items of 2", () -> x.ofWindow(2, 2), 2);
    Due.is("items of 3", () -> x.ofWindow(3, 2), 0);
    Due.isAndLeavesAll("what 3", x, () -> x.ofWindow(0, 3), Due.ARGUMENT);
    Due.isAndLeavesAll("what -1", x, () -> x.ofWindow(0, -1), Due.ARGUMENT);
    Due.isAndLeavesAll("window 4", x, () -> x.ofWindow(4, 3), Due.BOUNDS);
    Due.isAndLeavesAll("window -1", x, () -> x.ofWindow(-1, 0), Due.BOUNDS);
    x.close(3);
    for (int i = 0; i < 3; i++) {
      int what = i;
      Due.is("not there, " + what, () -> x.ofWindow(3, what), -1);
    }
    Due.isAndLeavesAll("not there, what 3", x, () -> x.ofWindow(3, 3), Due.ARGUMENT);
  }

  private static void change(String name, Act act, int more) {
    Splicemonoid x = nested();
    x.add(1, 1);
    x.open(0, 0, 0);
    x.open(1, 5, 0);
    x.open(2, 4, 0);
    act.on(x, 5);
    Due.is(name + ": the row", () -> x.size(0), 10 + more);
    Due.is(name + ": sizes", () -> sizes(x), (8 + more) + " " + (4 + more) + " -1 -1 ");
    Due.is(name + ": cursors", () -> x.house(2), 0);
    Due.is(name + ": ahead of the window", () -> x.get(0, 2), 2);
    Due.is(name + ": behind the window", () -> x.get(0, 7 + more), 7);
    Due.is(name + ": behind it in the ground", () -> x.get(4, 6 + more), 7);
    Splicemonoid y = nested();
    y.add(1, 1);
    y.open(1, 6, 0);
    act.on(y, 0);
    Due.is(name + " in the row: windows", () -> y.house(1), 0);
    Due.is(name + " in the row: cursors", () -> y.house(2), 0);
  }

  private static void changesKeepHoldersAlone() {
    change("add", (x, where) -> x.add(where, 1), 1);
    change("insert", (x, where) -> x.insert(where, 0, 1), 1);
    change("remove", (x, where) -> x.remove(where, 0), -1);
    change("splice", (x, where) -> x.splice(where, 0, 3, 1), -2);
    change("splice of as many", (x, where) -> x.splice(where, 0, 1, 1), 0);
    change("riffle", (x, where) -> x.riffle(where), 0);
    change("unriffle", (x, where) -> x.unriffle(where), 0);
    change("sort", (x, where) -> x.sort(where), 0);
    Splicemonoid x = nested();
    x.open(0, 4, 0);
    Due.is("clear", () -> x.clear(5), 4);
    Due.is("clear: sizes", () -> sizes(x), "4 0 -1 -1 ");
    Due.is("clear: text", () -> x.text(0), "[0, 1, 2, 7, 8, 9]");
    Due.is("clear: cursors", () -> x.house(2), 0);
    Due.is("add to what is clear", () -> x.add(5, 55), 1);
    Due.is("text", () -> x.text(0), "[0, 1, 2, 55, 7, 8, 9]");
  }

  private static void noChange(String name, Act act) {
    for (int where : new int[] {0, 5}) {
      Splicemonoid x = nested();
      x.open(0, 0, 3);
      x.open(1, 6, 1);
      x.open(2, 7, 9);
      act.on(x, where);
      Due.is(name + ": sizes", () -> sizes(x), "8 4 2 10 ");
      Due.is(name + ": cursors", () -> x.house(2), 3);
      Due.is(name + ": index", () -> x.ofCursor(2, 1), 9);
    }
  }

  private static void otherActsKeepAll() {
    noChange("set", (x, where) -> x.set(where, 1, 50));
    noChange("swap", (x, where) -> x.swap(where, 0, 3));
    noChange("reverse", (x, where) -> x.reverse(where));
    noChange("rotate", (x, where) -> x.rotate(where, 3));
    noChange("fill", (x, where) -> x.fill(0, 3));
    noChange("asking", (x, where) -> x.partAt(where, 4));
  }

  private static void anotherRowIsLeft() {
    Splicemonoid x = nested();
    x.places(1, 5);
    x.window(3, 1, 1, 3);
    x.open(0, 1, 5);
    x.open(1, 7, 1);
    x.add(0, 1);
    Due.is("sizes", () -> sizes(x), "-1 -1 -1 2 ");
    Due.is("cursors", () -> x.house(2), 2);
    x.copy(1, 0);
    Due.is("the row copied from is left", () -> x.house(1) + x.house(2), 3);
  }

  private static void windowsFollowTheirGround() {
    Splicemonoid x = nested();
    x.reverse(4);
    Due.is("reversed", () -> x.text(0), "[0, 8, 7, 6, 5, 4, 3, 2, 1, 9]");
    Due.is("the same places", () -> x.get(6, 0), 5);
    x.add(6, 60);
    x.insert(6, 0, 61);
    Due.is("row", () -> x.text(0), "[0, 8, 7, 6, 61, 5, 4, 60, 3, 2, 1, 9]");
    Due.is("sizes", () -> sizes(x), "10 6 4 -1 ");
    x.remove(4, 0);
    Due.is("a change in a ground", () -> sizes(x), "9 -1 -1 -1 ");
    Due.is("what stands first in it then", () -> x.get(4, 0), 7);
  }
}
