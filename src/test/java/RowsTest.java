/** Promises 18 to 35: what is done and asked at rows alone. */
public final class RowsTest {
  private static final int[] TWELVE = {0, 1, 2, 3, 4, 5, 6, 7, 8, 9, 10, 11};

  public static void main(String[] args) {
    promise18Fill();
    promise19RemoveItem();
    promise20AddAll();
    promise21RemoveAll();
    promise22RetainAll();
    promise23Copy();
    promise24Places();
    promise25Through();
    promises26To29Items();
    promise30Least();
    promise31AreApart();
    promise32AreSame();
    promise33Hash();
    promise34Text();
    promise35InArray();
    Due.end("RowsTest");
  }

  /** Two windows and cursors at row 0, one each at row 1. */
  private static Splicemonoid watched(int[]... rows) {
    Splicemonoid x = Due.rows(rows);
    x.window(0, 0, 0, x.size(0));
    x.window(1, 4, 0, x.size(0));
    x.window(2, 1, 0, x.size(1));
    x.open(0, 0, 0);
    x.open(1, 5, 0);
    x.open(2, 6, 0);
    return x;
  }

  private static void row0IsLeft(String name, Splicemonoid x) {
    Due.is(name + ": windows", () -> x.house(1), 3);
    Due.is(name + ": cursors", () -> x.house(2), 3);
  }

  private static void row0IsAnother(String name, Splicemonoid x) {
    Due.is(name + ": windows", () -> x.house(1), 1);
    Due.is(name + ": the window of the other row", () -> x.ofWindow(2, 0), 1);
    Due.is(name + ": cursors", () -> x.house(2), 1);
    Due.is(name + ": the cursor over the other row", () -> x.ofCursor(2, 0), 6);
  }

  private static void promise18Fill() {
    Splicemonoid x = watched(Due.row(1, 2, 3));
    Due.is("fill(0, -99)", () -> x.fill(0, -99), 3);
    Due.is("text", () -> x.text(0), "[-99, -99, -99]");
    row0IsLeft("fill", x);
    Due.is("the window sees it", () -> x.get(5, 2), -99);
    Due.is("fill none", () -> x.fill(1, 99), 0);
    Splicemonoid full = Due.rows(TWELVE);
    Due.is("fill 12", () -> full.fill(0, 5), 12);
    Due.is("all are the same", () -> full.howOften(0, 5), 12);
    Due.isAndLeavesAll("fill(0, 100)", x, () -> x.fill(0, 100), Due.ARGUMENT);
    Due.isAndLeavesAll("fill(0, -100)", x, () -> x.fill(0, -100), Due.ARGUMENT);
    Due.isAndLeavesAll("fill(4, 100)", x, () -> x.fill(4, 100), Due.BOUNDS);
  }

  private static void promise19RemoveItem() {
    Splicemonoid x = watched(Due.row(5, 6, 5, 7));
    Due.isAndLeavesAll("removeItem(0, 8)", x, () -> x.removeItem(0, 8), 0);
    Due.isAndLeavesAll("a number far off", x, () -> x.removeItem(0, 1000), 0);
    row0IsLeft("removeItem of none", x);
    Due.is("removeItem(0, 5)", () -> x.removeItem(0, 5), 1);
    Due.is("the first one went", () -> x.text(0), "[6, 5, 7]");
    row0IsAnother("removeItem", x);
    Due.is("removeItem(0, 7)", () -> x.removeItem(0, 7), 1);
    Due.is("text", () -> x.text(0), "[6, 5]");
  }

  private static void promise20AddAll() {
    Splicemonoid x = watched(Due.row(1, 2, 3), Due.row(8, 9));
    Due.isAndLeavesAll("of none", x, () -> x.addAll(0, 1, 3), 3);
    Due.isAndLeavesAll("of none at no place", x, () -> x.addAll(0, -7, 3), 3);
    Due.isAndLeavesAll("at -1", x, () -> x.addAll(0, -1, 1), -9);
    Due.isAndLeavesAll("at 4", x, () -> x.addAll(0, 4, 1), -9);
    row0IsLeft("addAll refused", x);
    Due.is("at 1", () -> x.addAll(0, 1, 1), 5);
    Due.is("text", () -> x.text(0), "[1, 8, 9, 2, 3]");
    Due.is("from stands", () -> x.text(1), "[8, 9]");
    row0IsAnother("addAll", x);
    Due.is("behind all", () -> x.addAll(0, 5, 1), 7);
    Due.is("itself", () -> x.addAll(1, 1, 1), 4);
    Due.is("text", () -> x.text(1), "[8, 8, 9, 9]");
    Due.is("11", () -> x.addAll(0, 0, 1), 11);
    Due.isAndLeavesAll("15", x, () -> x.addAll(0, 0, 1), Due.STATE);
    Due.isAndLeavesAll("15 at no place", x, () -> x.addAll(0, 99, 1), Due.STATE);
    x.add(2, 4);
    Due.is("12", () -> x.addAll(0, 11, 2), 12);
    Due.isAndLeavesAll("13", x, () -> x.addAll(0, 0, 2), Due.STATE);
  }

  private static void promise21RemoveAll() {
    Splicemonoid x = watched(Due.row(1, 2, 1, 3, 2, 4), Due.row(2, 1, 7));
    Due.is("removeAll", () -> x.removeAll(0, 1), 4);
    Due.is("text", () -> x.text(0), "[3, 4]");
    Due.is("from stands", () -> x.text(1), "[2, 1, 7]");
    row0IsAnother("removeAll", x);
    Splicemonoid y = watched(Due.row(1, 2));
    Due.is("none goes", () -> y.removeAll(0, 1), 0);
    Due.is("text", () -> y.text(0), "[1, 2]");
    row0IsAnother("removeAll of none", y);
    Due.is("itself", () -> y.removeAll(0, 0), 2);
    Due.is("text", () -> y.text(0), "[]");
    y.window(0, 0, 0, 0);
    Due.is("of none", () -> y.removeAll(0, 0), 0);
    Due.is("it became another one", () -> y.ofWindow(0, 0), -1);
  }

  private static void promise22RetainAll() {
    Splicemonoid x = watched(Due.row(1, 2, 1, 3, 2, 4), Due.row(2, 1, 7));
    Due.is("retainAll", () -> x.retainAll(0, 1), 2);
    Due.is("text", () -> x.text(0), "[1, 2, 1, 2]");
    Due.is("from stands", () -> x.text(1), "[2, 1, 7]");
    row0IsAnother("retainAll", x);
    Splicemonoid y = watched(Due.row(1, 2), Due.row(2, 1));
    Due.is("none goes", () -> y.retainAll(0, 1), 0);
    row0IsAnother("retainAll of none", y);
    Due.is("itself", () -> y.retainAll(0, 0), 0);
    Due.is("text", () -> y.text(0), "[1, 2]");
    Due.is("of none", () -> y.retainAll(0, 3), 2);
    Due.is("text", () -> y.text(0), "[]");
  }

  private static void promise23Copy() {
    Splicemonoid x = watched(Due.row(1, 2, 3), Due.row(8, 9));
    Due.is("copy(1, 0)", () -> x.copy(1, 0), 2);
    Due.is("text", () -> x.text(0), "[8, 9]");
    row0IsAnother("copy", x);
    Due.is("copy a window of another row", () -> x.copy(6, 0), 2);
    x.set(1, 0, 7);
    Due.is("a copy is not shared", () -> x.text(0), "[8, 9]");
    Splicemonoid y = watched(Due.row(1, 2, 3, 4), Due.row());
    y.window(3, 0, 2, 4);
    Due.is("a window of itself", () -> y.copy(7, 0), 2);
    Due.is("text", () -> y.text(0), "[3, 4]");
    row0IsAnother("copy of a window", y);
    y.window(0, 0, 0, 1);
    Due.is("itself", () -> y.copy(0, 0), 2);
    Due.is("text", () -> y.text(0), "[3, 4]");
    Due.is("it became another one", () -> y.ofWindow(0, 0), -1);
    Due.is("none", () -> y.copy(3, 0), 0);
    Due.isAndLeavesAll("no such where", y, () -> y.copy(4, 0), Due.BOUNDS);
    Due.isAndLeavesAll("where 8", y, () -> y.copy(8, 0), Due.BOUNDS);
    Due.isAndLeavesAll("a window is no row", y, () -> y.copy(0, 6), Due.BOUNDS);
    Due.isAndLeavesAll("row -1", y, () -> y.copy(0, -1), Due.BOUNDS);
  }

  private static void promise24Places() {
    Splicemonoid x = watched(Due.row(5, 6));
    Due.is("places(0, 3)", () -> x.places(0, 3), 3);
    Due.is("text", () -> x.text(0), "[0, 1, 2]");
    row0IsAnother("places", x);
    Due.is("places(0, 12)", () -> x.places(0, 12), 12);
    Due.is("text", () -> x.text(0), "[0, 1, 2, 3, 4, 5, 6, 7, 8, 9, 10, 11]");
    Due.isAndLeavesAll("places(0, 13)", x, () -> x.places(0, 13), Due.ARGUMENT);
    Due.isAndLeavesAll("places(0, -1)", x, () -> x.places(0, -1), Due.ARGUMENT);
    Due.isAndLeavesAll("places(4, 13)", x, () -> x.places(4, 13), Due.BOUNDS);
    Due.is("places(0, 0)", () -> x.places(0, 0), 0);
    x.window(0, 0, 0, 0);
    Due.is("the same once more", () -> x.places(0, 0), 0);
    Due.is("it became another one", () -> x.ofWindow(0, 0), -1);
  }

  private static void promise25Through() {
    Splicemonoid x = watched(Due.row(2, 0, -5, 1), Due.row(7, 8, 9));
    Due.is("through(1, 0, 0)", () -> x.through(1, 0, 0), 4);
    Due.is("text", () -> x.text(0), "[9, 7, -5, 8]");
    row0IsAnother("through", x);
    x.places(2, 3);
    Due.isAndLeavesAll("no place 9", x, () -> x.through(1, 0, 3), -9);
    x.add(2, 3);
    Due.isAndLeavesAll("no place 3", x, () -> x.through(1, 2, 3), -9);
    Due.is("of none in none", () -> x.through(3, 3, 1), 0);
    Splicemonoid y = Due.rows(Due.row(1, 2, 0), Due.row(-1, -2));
    y.window(0, 0, 1, 3);
    y.window(1, 0, 0, 1);
    Due.is("through windows into their row", () -> y.through(4, 5, 0), 1);
    Due.is("text", () -> y.text(0), "[0]");
    Due.is("they are gone", () -> y.house(1), 0);
    Due.is("below 0 in none", () -> y.through(3, 1, 2), 2);
    Due.is("text", () -> y.text(2), "[-1, -2]");
    y.places(0, 3);
    y.reverse(0);
    Due.is("itself", () -> y.through(0, 0, 0), 3);
    Due.is("text", () -> y.text(0), "[0, 1, 2]");
    y.add(3, 99);
    Due.isAndLeavesAll("no such where", y, () -> y.through(5, 3, 0), Due.BOUNDS);
    Due.isAndLeavesAll("no such map", y, () -> y.through(0, 5, 0), Due.BOUNDS);
    Due.isAndLeavesAll("no such row", y, () -> y.through(0, 3, 4), Due.BOUNDS);
    Due.isAndLeavesAll("row -1", y, () -> y.through(0, 0, -1), Due.BOUNDS);
  }

  private static void promises26To29Items() {
    Splicemonoid x = Due.rows(Due.row(4, 5, 4, 6, 4, -9));
    Due.is("indexOf(0, 4)", () -> x.indexOf(0, 4), 0);
    Due.is("indexOf(0, 6)", () -> x.indexOf(0, 6), 3);
    Due.is("indexOf(0, 7)", () -> x.indexOf(0, 7), -1);
    Due.is("lastIndexOf(0, 4)", () -> x.lastIndexOf(0, 4), 4);
    Due.is("lastIndexOf(0, -9)", () -> x.lastIndexOf(0, -9), 5);
    Due.is("lastIndexOf(0, 7)", () -> x.lastIndexOf(0, 7), -1);
    Due.is("contains(0, -9)", () -> x.contains(0, -9), true);
    Due.is("contains(0, 9)", () -> x.contains(0, 9), false);
    Due.is("howOften(0, 4)", () -> x.howOften(0, 4), 3);
    Due.is("howOften(0, 7)", () -> x.howOften(0, 7), 0);
    x.clear(0);
    Due.is("indexOf of what went", () -> x.indexOf(0, 4), -1);
    Due.is("lastIndexOf of what went", () -> x.lastIndexOf(0, 4), -1);
    Due.is("contains what went", () -> x.contains(0, 4), false);
    Due.is("howOften what went", () -> x.howOften(0, 4), 0);
    Due.is("a number far off", () -> x.indexOf(0, Integer.MAX_VALUE), -1);
    Due.is("0 in none", () -> x.contains(1, 0), false);
  }

  private static void promise30Least() {
    Splicemonoid x = Due.rows(Due.row(4, -5, 40, 6), Due.row(-7), Due.row(1, 2), Due.row());
    Due.is("least", () -> x.least(0, false), -5);
    Due.is("greatest", () -> x.least(0, true), 40);
    Due.is("least of one", () -> x.least(1, false), -7);
    Due.is("greatest of one", () -> x.least(1, true), -7);
    Due.is("least at the beginning", () -> x.least(2, false), 1);
    Due.is("greatest at the end", () -> x.least(2, true), 2);
    Due.isAndLeavesAll("least of none", x, () -> x.least(3, false), Due.STATE);
    Due.isAndLeavesAll("greatest of none", x, () -> x.least(3, true), Due.STATE);
  }

  private static void promise31AreApart() {
    Splicemonoid x = Due.rows(Due.row(1, 2, 3), Due.row(4, 5), Due.row(9, 3));
    Due.is("apart", () -> x.areApart(0, 1), true);
    Due.is("3 in both", () -> x.areApart(0, 2), false);
    Due.is("3 in both", () -> x.areApart(2, 0), false);
    Due.is("itself", () -> x.areApart(0, 0), false);
    Due.is("none", () -> x.areApart(0, 3), true);
    Due.is("none and none", () -> x.areApart(3, 3), true);
    x.remove(2, 1);
    Due.is("what went is in none", () -> x.areApart(2, 0), true);
    Splicemonoid full = Due.rows(TWELVE, Due.row(-1));
    Due.is("12 apart", () -> full.areApart(0, 1), true);
    full.set(1, 0, 11);
    Due.is("the last of 12 in both", () -> full.areApart(0, 1), false);
  }

  private static void promise32AreSame() {
    Splicemonoid x = Due.rows(Due.row(1, 2, 3), Due.row(1, 2, 3), Due.row(1, 2), Due.row(1, 3, 2));
    Due.is("same", () -> x.areSame(0, 1), true);
    Due.is("shorter", () -> x.areSame(0, 2), false);
    Due.is("longer", () -> x.areSame(2, 0), false);
    Due.is("another sequence", () -> x.areSame(0, 3), false);
    Due.is("itself", () -> x.areSame(3, 3), true);
    x.clear(0);
    x.clear(1);
    Due.is("none and none", () -> x.areSame(0, 1), true);
    Due.is("none and some", () -> x.areSame(0, 2), false);
  }

  private static void promise33Hash() {
    Splicemonoid x = Due.rows(Due.row(-3, -3, -3), Due.row(99, -99), TWELVE);
    Due.is("hash", () -> x.hash(0), 26812);
    Due.is("hash", () -> x.hash(1), (31 + 99) * 31 - 99);
    Due.is("it wraps around", () -> x.hash(2), java.util.List.of(TWELVE_BOXED).hashCode());
    Due.is("hash of none", () -> x.hash(3), 1);
  }

  private static final Integer[] TWELVE_BOXED = {0, 1, 2, 3, 4, 5, 6, 7, 8, 9, 10, 11};

  private static void promise34Text() {
    Splicemonoid x = Due.rows(Due.row(-99, 0, 7), Due.row(5));
    Due.is("text", () -> x.text(0), "[-99, 0, 7]");
    Due.is("text of one", () -> x.text(1), "[5]");
    Due.is("text of none", () -> x.text(2), "[]");
  }

  private static void promise35InArray() {
    Splicemonoid x = Due.rows(Due.row(4, 5));
    x.window(0, 0, 0, 1);
    Due.is("inArray(0, 0)", () -> x.inArray(0, 0), 4);
    Due.is("inArray(0, 1)", () -> x.inArray(0, 1), 5);
    Due.isAndLeavesAll("inArray(0, 2)", x, () -> x.inArray(0, 2), Due.BOUNDS);
    Due.isAndLeavesAll("inArray(0, -1)", x, () -> x.inArray(0, -1), Due.BOUNDS);
    Due.isAndLeavesAll("inArray(4, 0)", x, () -> x.inArray(4, 0), Due.BOUNDS);
    x.remove(0, 1);
    Due.isAndLeavesAll("what went", x, () -> x.inArray(0, 1), Due.BOUNDS);
  }
}
