/** Promises 1 to 17: a new object, and what is done and asked at rows and windows. */
public final class ActsTest {
  private static final int[] TWELVE = {0, 1, 2, 3, 4, 5, 6, 7, 8, 9, 10, 11};

  public static void main(String[] args) {
    promise1New();
    promise2Add();
    promise3Insert();
    promise4Set();
    promise5Remove();
    promise6Clear();
    promise7Splice();
    promise7SpliceWithItself();
    promise8Rotate();
    promise9Reverse();
    promise10Swap();
    promise11Riffle();
    promise12Unriffle();
    promise13Sort();
    promise14SortBy();
    promise15Get();
    promise16Size();
    promise17PartAt();
    Due.end("ActsTest");
  }

  private static void promise1New() {
    Splicemonoid x = new Splicemonoid();
    for (int i = 0; i < 4; i++) {
      int at = i;
      Due.is("new size(" + at + ")", () -> x.size(at), 0);
      Due.is("new ofWindow(" + at + ", 0)", () -> x.ofWindow(at, 0), -1);
    }
    for (int i = 0; i < 3; i++) {
      int at = i;
      Due.is("new ofCursor(" + at + ", 1)", () -> x.ofCursor(at, 1), -1);
    }
    for (int i = 0; i < 4; i++) {
      int what = i;
      Due.is("new house(" + what + ")", () -> x.house(what), 0);
    }
    Splicemonoid other = new Splicemonoid();
    other.add(0, 5);
    Due.is("objects share nothing", () -> x.size(0), 0);
  }

  private static void promise2Add() {
    Splicemonoid x = new Splicemonoid();
    Due.is("add(0, -99)", () -> x.add(0, -99), 1);
    Due.is("add(0, 99)", () -> x.add(0, 99), 2);
    Due.is("text", () -> x.text(0), "[-99, 99]");
    Due.isAndLeavesAll("add(0, 100)", x, () -> x.add(0, 100), Due.ARGUMENT);
    Due.isAndLeavesAll("add(0, -100)", x, () -> x.add(0, -100), Due.ARGUMENT);
    Due.isAndLeavesAll("add(9, 100)", x, () -> x.add(9, 100), Due.BOUNDS);
    x.window(0, 0, 0, 1);
    Due.is("add in a window", () -> x.add(4, 7), 2);
    Due.is("it comes behind the window's last", () -> x.text(0), "[-99, 7, 99]");
    Splicemonoid full = Due.rows(TWELVE);
    full.window(0, 0, 3, 3);
    Due.isAndLeavesAll("add to 12", full, () -> full.add(0, 1), Due.STATE);
    Due.isAndLeavesAll("add in a window of 12", full, () -> full.add(4, 1), Due.STATE);
    Due.isAndLeavesAll("add 100 to 12", full, () -> full.add(0, 100), Due.ARGUMENT);
  }

  private static void promise3Insert() {
    Splicemonoid x = Due.rows(Due.row(1, 2, 3));
    Due.is("insert at 0", () -> x.insert(0, 0, 10), 4);
    Due.is("insert at 2", () -> x.insert(0, 2, 20), 5);
    Due.is("insert behind all", () -> x.insert(0, 5, 30), 6);
    Due.is("text", () -> x.text(0), "[10, 1, 20, 2, 3, 30]");
    x.window(0, 0, 1, 3);
    Due.is("insert in a window", () -> x.insert(4, 1, 77), 3);
    Due.is("text", () -> x.text(0), "[10, 1, 77, 20, 2, 3, 30]");
    Due.isAndLeavesAll("insert behind a window", x, () -> x.insert(4, 4, 1), -9);
    Due.isAndLeavesAll("insert(0, -1, 1)", x, () -> x.insert(0, -1, 1), -9);
    Due.isAndLeavesAll("insert(0, 8, 1)", x, () -> x.insert(0, 8, 1), -9);
    Due.isAndLeavesAll("insert far", x, () -> x.insert(0, Integer.MAX_VALUE, 1), -9);
    Due.isAndLeavesAll("insert(0, 8, 100)", x, () -> x.insert(0, 8, 100), Due.ARGUMENT);
    Due.isAndLeavesAll("insert(9, 8, 100)", x, () -> x.insert(9, 8, 100), Due.BOUNDS);
    Splicemonoid full = Due.rows(TWELVE);
    Due.isAndLeavesAll("insert in 12", full, () -> full.insert(0, 0, 1), Due.STATE);
    Due.isAndLeavesAll("it goes ahead of REFUSED", full, () -> full.insert(0, 99, 1), Due.STATE);
    Due.isAndLeavesAll("insert 100 in 12", full, () -> full.insert(0, 0, 100), Due.ARGUMENT);
  }

  private static void promise4Set() {
    Splicemonoid x = Due.rows(Due.row(1, 2, 3));
    Due.is("set(0, 0, -99)", () -> x.set(0, 0, -99), 1);
    Due.is("set(0, 2, 99)", () -> x.set(0, 2, 99), 3);
    x.window(0, 0, 1, 3);
    Due.is("set in a window", () -> x.set(4, 1, 5), 99);
    Due.is("text", () -> x.text(0), "[-99, 2, 5]");
    Due.isAndLeavesAll("set behind a window", x, () -> x.set(4, 2, 5), Due.BOUNDS);
    Due.isAndLeavesAll("set(0, 3, 1)", x, () -> x.set(0, 3, 1), Due.BOUNDS);
    Due.isAndLeavesAll("set(0, -1, 1)", x, () -> x.set(0, -1, 1), Due.BOUNDS);
    Due.isAndLeavesAll("set(0, 0, 100)", x, () -> x.set(0, 0, 100), Due.ARGUMENT);
    Due.isAndLeavesAll("set(0, 0, -100)", x, () -> x.set(0, 0, -100), Due.ARGUMENT);
    Due.isAndLeavesAll("set(0, 3, 100)", x, () -> x.set(0, 3, 100), Due.BOUNDS);
    Due.isAndLeavesAll("set(1, 0, 1)", x, () -> x.set(1, 0, 1), Due.BOUNDS);
  }

  private static void promise5Remove() {
    Splicemonoid x = Due.rows(Due.row(1, 2, 3, 4, 5));
    Due.is("remove(0, 1)", () -> x.remove(0, 1), 2);
    Due.is("remove last", () -> x.remove(0, 3), 5);
    Due.is("remove first", () -> x.remove(0, 0), 1);
    Due.is("text", () -> x.text(0), "[3, 4]");
    x.window(0, 0, 1, 2);
    Due.isAndLeavesAll("remove behind a window", x, () -> x.remove(4, 1), Due.BOUNDS);
    Due.is("remove in a window", () -> x.remove(4, 0), 4);
    Due.is("text", () -> x.text(0), "[3]");
    Due.isAndLeavesAll("remove(0, 1)", x, () -> x.remove(0, 1), Due.BOUNDS);
    Due.isAndLeavesAll("remove(0, -1)", x, () -> x.remove(0, -1), Due.BOUNDS);
    Due.isAndLeavesAll("remove in none", x, () -> x.remove(1, 0), Due.BOUNDS);
  }

  private static void promise6Clear() {
    Splicemonoid x = Due.rows(Due.row(1, 2, 3, 4), Due.row(9));
    x.window(0, 0, 1, 3);
    Due.is("clear a window", () -> x.clear(4), 2);
    Due.is("the rest stands", () -> x.text(0), "[1, 4]");
    Due.isAndLeavesAll("clear it again", x, () -> x.clear(4), 0);
    Due.is("clear the row", () -> x.clear(0), 2);
    Due.is("nothing stands", () -> x.text(0), "[]");
    Due.is("the other row stands", () -> x.text(1), "[9]");
    x.window(1, 0, 0, 0);
    x.open(0, 0, 0);
    Due.isAndLeavesAll("clear of none is nothing", x, () -> x.clear(0), 0);
  }

  private static void promise7Splice() {
    Splicemonoid x = Due.rows(Due.row(1, 2, 3, 4), Due.row(7, 8, 9));
    Due.is("splice 1 to 3", () -> x.splice(0, 1, 3, 1), 5);
    Due.is("text", () -> x.text(0), "[1, 7, 8, 9, 4]");
    Due.is("with stands", () -> x.text(1), "[7, 8, 9]");
    Due.is("splice none out", () -> x.splice(0, 5, 5, 1), 8);
    Due.is("text", () -> x.text(0), "[1, 7, 8, 9, 4, 7, 8, 9]");
    Due.is("splice all out", () -> x.splice(0, 0, 8, 2), 0);
    x.window(0, 0, 0, 0);
    x.window(1, 1, 1, 2);
    x.open(0, 0, 0);
    Due.isAndLeavesAll("none out, none in", x, () -> x.splice(0, 0, 0, 2), 0);
    Due.is("a window's items come", () -> x.splice(0, 0, 0, 5), 1);
    Due.is("text", () -> x.text(0), "[8]");
    Due.isAndLeavesAll("from below 0", x, () -> x.splice(0, -1, 1, 1), -9);
    Due.isAndLeavesAll("from above to", x, () -> x.splice(0, 1, 0, 1), -9);
    Due.isAndLeavesAll("to above all", x, () -> x.splice(0, 0, 2, 1), -9);
    Due.isAndLeavesAll("to far above", x, () -> x.splice(0, 0, Integer.MAX_VALUE, 1), -9);
    Due.isAndLeavesAll("from far below", x, () -> x.splice(0, Integer.MIN_VALUE, 0, 1), -9);
    Due.isAndLeavesAll("no such with", x, () -> x.splice(0, 0, 0, 6), Due.BOUNDS);
    Due.isAndLeavesAll("no such with, refused", x, () -> x.splice(0, 1, 0, 8), Due.BOUNDS);
    Splicemonoid full = Due.rows(TWELVE, Due.row(1, 2, 3));
    full.window(0, 0, 2, 4);
    Due.isAndLeavesAll("13", full, () -> full.splice(0, 0, 2, 1), Due.STATE);
    Due.isAndLeavesAll("13 by a window", full, () -> full.splice(4, 0, 2, 1), Due.STATE);
    Due.isAndLeavesAll("13, refused", full, () -> full.splice(4, 0, 3, 1), -9);
    Due.is("12", () -> full.splice(0, 0, 3, 1), 12);
    Due.is("text", () -> full.text(0), "[1, 2, 3, 3, 4, 5, 6, 7, 8, 9, 10, 11]");
  }

  private static void promise7SpliceWithItself() {
    Splicemonoid x = Due.rows(Due.row(1, 2, 3));
    Due.is("with itself", () -> x.splice(0, 1, 2, 0), 5);
    Due.is("text", () -> x.text(0), "[1, 1, 2, 3, 3]");
    x.window(0, 0, 2, 4);
    Due.is("a window into its row", () -> x.splice(0, 0, 3, 4), 4);
    Due.is("text", () -> x.text(0), "[2, 3, 3, 3]");
    Due.is("the window is gone", () -> x.ofWindow(0, 0), -1);
    x.window(0, 0, 1, 2);
    Due.is("the row into its window", () -> x.splice(4, 0, 1, 0), 4);
    Due.is("text", () -> x.text(0), "[2, 2, 3, 3, 3, 3, 3]");
    Due.is("the window stands", () -> x.ofWindow(0, 2), 4);
  }

  private static void promise8Rotate() {
    Splicemonoid x = Due.rows(Due.row(1, 2, 3, 4, 5));
    Due.is("rotate by 2", () -> x.rotate(0, 2), 4);
    Due.is("text", () -> x.text(0), "[4, 5, 1, 2, 3]");
    Due.is("rotate by -2", () -> x.rotate(0, -2), 1);
    Due.is("rotate by -99", () -> x.rotate(0, -99), 5);
    Due.is("rotate by 99", () -> x.rotate(0, 99), 1);
    Due.is("rotate by 5", () -> x.rotate(0, 5), 1);
    Due.is("rotate by 0", () -> x.rotate(0, 0), 1);
    x.window(0, 0, 1, 4);
    Due.is("rotate a window", () -> x.rotate(4, 1), 4);
    Due.is("text", () -> x.text(0), "[1, 4, 2, 3, 5]");
    Due.is("rotate none", () -> x.rotate(1, 3), 100);
    Due.isAndLeavesAll("rotate by 100", x, () -> x.rotate(0, 100), Due.ARGUMENT);
    Due.isAndLeavesAll("rotate by -100", x, () -> x.rotate(0, -100), Due.ARGUMENT);
    Due.isAndLeavesAll("rotate none by 100", x, () -> x.rotate(1, 100), Due.ARGUMENT);
    Due.isAndLeavesAll("rotate no row by 100", x, () -> x.rotate(7, 100), Due.BOUNDS);
  }

  private static void promise9Reverse() {
    Splicemonoid x = Due.rows(Due.row(1, 2, 3, 4, 5), Due.row(6, 7), Due.row(8));
    Due.is("reverse 5", () -> x.reverse(0), 5);
    Due.is("text", () -> x.text(0), "[5, 4, 3, 2, 1]");
    Due.is("reverse 2", () -> x.reverse(1), 7);
    Due.is("text", () -> x.text(1), "[7, 6]");
    Due.is("reverse 1", () -> x.reverse(2), 8);
    Due.is("reverse none", () -> x.reverse(3), 100);
    x.window(0, 0, 1, 4);
    Due.is("reverse a window", () -> x.reverse(4), 2);
    Due.is("text", () -> x.text(0), "[5, 2, 3, 4, 1]");
  }

  private static void promise10Swap() {
    Splicemonoid x = Due.rows(Due.row(1, 2, 3, 4));
    Due.is("swap(0, 0, 3)", () -> x.swap(0, 0, 3), 4);
    Due.is("swap(0, 2, 1)", () -> x.swap(0, 2, 1), 2);
    Due.is("text", () -> x.text(0), "[4, 3, 2, 1]");
    Due.is("swap with itself", () -> x.swap(0, 1, 1), 3);
    x.window(0, 0, 1, 3);
    Due.is("swap in a window", () -> x.swap(4, 0, 1), 2);
    Due.is("text", () -> x.text(0), "[4, 2, 3, 1]");
    Due.isAndLeavesAll("one below", x, () -> x.swap(0, -1, 0), Due.BOUNDS);
    Due.isAndLeavesAll("one above", x, () -> x.swap(0, 4, 0), Due.BOUNDS);
    Due.isAndLeavesAll("other below", x, () -> x.swap(0, 0, -1), Due.BOUNDS);
    Due.isAndLeavesAll("other above", x, () -> x.swap(4, 0, 2), Due.BOUNDS);
    Due.isAndLeavesAll("in none", x, () -> x.swap(1, 0, 0), Due.BOUNDS);
  }

  private static void promise11Riffle() {
    Splicemonoid x = Due.rows(Due.row(1, 2, 3, 4, 5), Due.row(1, 2, 3, 4, 5, 6), Due.row(1, 2));
    Due.is("riffle 5", () -> x.riffle(0), 5);
    Due.is("text", () -> x.text(0), "[1, 4, 2, 5, 3]");
    Due.is("riffle 6", () -> x.riffle(1), 6);
    Due.is("text", () -> x.text(1), "[1, 4, 2, 5, 3, 6]");
    Due.is("riffle 2", () -> x.riffle(2), 2);
    Due.is("text", () -> x.text(2), "[1, 2]");
    x.window(0, 0, 1, 4);
    Due.is("riffle a window", () -> x.riffle(4), 3);
    Due.is("text", () -> x.text(0), "[1, 4, 5, 2, 3]");
    littleIsLeft("riffle", false);
  }

  private static void promise12Unriffle() {
    Splicemonoid x = Due.rows(Due.row(1, 2, 3, 4, 5), Due.row(1, 2, 3, 4, 5, 6), Due.row(1, 2));
    Due.is("unriffle 5", () -> x.unriffle(0), 5);
    Due.is("text", () -> x.text(0), "[1, 3, 5, 2, 4]");
    Due.is("unriffle 6", () -> x.unriffle(1), 6);
    Due.is("text", () -> x.text(1), "[1, 3, 5, 2, 4, 6]");
    Due.is("unriffle 2", () -> x.unriffle(2), 2);
    Due.is("text", () -> x.text(2), "[1, 2]");
    x.window(0, 0, 2, 5);
    Due.is("unriffle a window", () -> x.unriffle(4), 3);
    Due.is("text", () -> x.text(0), "[1, 3, 5, 4, 2]");
    littleIsLeft("unriffle", true);
  }

  /** With fewer than two items nothing is done, with two there is a change. */
  private static void littleIsLeft(String name, boolean isBack) {
    for (int many = 0; many <= 2; many++) {
      int n = many;
      Splicemonoid x = new Splicemonoid();
      x.places(0, n);
      x.window(0, 0, 0, n);
      x.open(0, 0, 0);
      Due.is(name + " of " + n, () -> isBack ? x.unriffle(0) : x.riffle(0), n);
      Due.is(name + " of " + n + ": windows", () -> x.house(1), n < 2 ? 1 : 0);
      Due.is(name + " of " + n + ": cursors", () -> x.house(2), n < 2 ? 1 : 0);
    }
  }

  private static void promise13Sort() {
    Splicemonoid x = Due.rows(Due.row(3, -99, 99, 0, 3, -1));
    Due.is("sort", () -> x.sort(0), -99);
    Due.is("text", () -> x.text(0), "[-99, -1, 0, 3, 3, 99]");
    Due.is("sort none", () -> x.sort(1), 100);
    Splicemonoid y = Due.rows(Due.row(5, 4, 3, 2, 1));
    y.window(0, 0, 1, 4);
    Due.is("sort a window", () -> y.sort(4), 2);
    Due.is("text", () -> y.text(0), "[5, 2, 3, 4, 1]");
    y.window(1, 2, 0, 0);
    y.open(1, 2, 0);
    y.sort(2);
    Due.is("a sort of none is a change: windows", () -> y.ofWindow(1, 0), -1);
    Due.is("a sort of none is a change: cursors", () -> y.ofCursor(1, 0), -1);
    y.window(1, 0, 0, 1);
    y.sort(0);
    y.window(1, 0, 0, 1);
    y.sort(0);
    Due.is("a sort of what is sorted is a change", () -> y.ofWindow(1, 0), -1);
  }

  private static void promise14SortBy() {
    Splicemonoid x = Due.rows(Due.row(12, -3, 7, -8, 2, -99, 99, 0));
    x.copy(0, 1);
    x.copy(0, 2);
    Due.is("by falling", () -> x.sortBy(0, 0), 99);
    Due.is("text", () -> x.text(0), "[99, 12, 7, 2, 0, -3, -8, -99]");
    Due.is("by what is left by 10", () -> x.sortBy(1, 1), 0);
    Due.is("text", () -> x.text(1), "[0, -99, 12, -8, 2, -3, 7, 99]");
    Due.is("those below 0 ahead", () -> x.sortBy(2, 2), -3);
    Due.is("text", () -> x.text(2), "[-3, -8, -99, 12, 7, 2, 99, 0]");
    Due.is("sortBy none", () -> x.sortBy(3, 1), 100);
    Due.isAndLeavesAll("by 3", x, () -> x.sortBy(0, 3), Due.ARGUMENT);
    Due.isAndLeavesAll("by -1", x, () -> x.sortBy(0, -1), Due.ARGUMENT);
    Due.isAndLeavesAll("by 3 of no row", x, () -> x.sortBy(4, 3), Due.BOUNDS);
    for (int i = 0; i <= 2; i++) {
      int by = i;
      Splicemonoid y = Due.rows(Due.row(4, 5, 6), Due.row());
      y.window(0, 0, 1, 3);
      y.window(1, 4, 0, 1);
      y.window(2, 1, 0, 0);
      y.open(0, 4, 0);
      y.sortBy(4, by);
      Due.is("a holder stands", () -> y.ofWindow(0, 2), 2);
      Due.is("no holder is gone", () -> y.ofWindow(1, 2), -1);
      Due.is("a cursor is gone", () -> y.ofCursor(0, 0), -1);
      y.sortBy(1, by);
      Due.is("also with none", () -> y.ofWindow(2, 2), -1);
    }
  }

  private static void promise15Get() {
    Splicemonoid x = Due.rows(Due.row(1, 2, 3));
    x.window(0, 0, 1, 3);
    Due.is("get(0, 0)", () -> x.get(0, 0), 1);
    Due.is("get(0, 2)", () -> x.get(0, 2), 3);
    Due.is("get(4, 1)", () -> x.get(4, 1), 3);
    Due.isAndLeavesAll("get(4, 2)", x, () -> x.get(4, 2), Due.BOUNDS);
    Due.isAndLeavesAll("get(4, -1)", x, () -> x.get(4, -1), Due.BOUNDS);
    Due.isAndLeavesAll("get(0, 3)", x, () -> x.get(0, 3), Due.BOUNDS);
    Due.isAndLeavesAll("get(0, max)", x, () -> x.get(0, Integer.MAX_VALUE), Due.BOUNDS);
    Due.isAndLeavesAll("get(1, 0)", x, () -> x.get(1, 0), Due.BOUNDS);
  }

  private static void promise16Size() {
    Splicemonoid x = Due.rows(TWELVE, Due.row(1));
    x.window(3, 0, 4, 9);
    Due.is("size(0)", () -> x.size(0), 12);
    Due.is("size(1)", () -> x.size(1), 1);
    Due.is("size(2)", () -> x.size(2), 0);
    Due.is("size(7)", () -> x.size(7), 5);
    x.close(3);
    Due.isAndLeavesAll("size(7) of none", x, () -> x.size(7), Due.BOUNDS);
  }

  private static void promise17PartAt() {
    Splicemonoid x = Due.rows(Due.row(1, 2, 1, 2, 3), Due.row(1, 2, 3), Due.row(2, 3, 4));
    Due.is("a later start", () -> x.partAt(0, 1), 2);
    Due.is("not beyond the end", () -> x.partAt(0, 2), -1);
    Due.is("longer than the first", () -> x.partAt(1, 0), -1);
    Due.is("of none", () -> x.partAt(0, 3), 0);
    Due.is("in none", () -> x.partAt(3, 0), -1);
    Due.is("none in none", () -> x.partAt(3, 3), 0);
    Due.is("itself", () -> x.partAt(0, 0), 0);
    x.window(0, 0, 0, 4);
    x.window(1, 1, 0, 2);
    Due.is("a window in a row", () -> x.partAt(0, 5), 0);
    Due.is("a row not in a window that ends", () -> x.partAt(4, 1), -1);
    x.window(0, 0, 1, 4);
    Due.is("a window in a window", () -> x.partAt(4, 5), 1);
    Due.isAndLeavesAll("no such part", x, () -> x.partAt(0, 7), Due.BOUNDS);
    Due.isAndLeavesAll("no such where", x, () -> x.partAt(7, 0), Due.BOUNDS);
  }
}
