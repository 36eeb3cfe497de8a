/** Promises 39 to 46: cursors, what they do, and what becomes of them. */
public final class CursorsTest {
  public static void main(String[] args) {
    promise39Open();
    promise40Shut();
    promises41And42Walk();
    promise43Put();
    promise43PutInWindow();
    promise44Take();
    promise45Replace();
    promise46OfCursor();
    lastIsAPlace();
    Due.end("CursorsTest");
  }

  private static Splicemonoid walked() {
    return Due.rows(Due.row(10, 11, 12, 13, 14));
  }

  private static void promise39Open() {
    Splicemonoid x = walked();
    x.window(0, 0, 1, 4);
    Due.is("open at 0", () -> x.open(0, 0, 0), 5);
    Due.is("open at the end", () -> x.open(0, 0, 5), 0);
    Due.is("open over a window", () -> x.open(1, 4, 1), 2);
    Due.is("open over none", () -> x.open(2, 3, 0), 0);
    Due.is("three are there", () -> x.house(2), 3);
    Due.isAndLeavesAll("open at -1", x, () -> x.open(0, 0, -1), Due.BOUNDS);
    Due.isAndLeavesAll("open at 6", x, () -> x.open(0, 0, 6), Due.BOUNDS);
    Due.isAndLeavesAll("open beyond a window", x, () -> x.open(0, 4, 4), Due.BOUNDS);
    Due.isAndLeavesAll("open over no window", x, () -> x.open(0, 5, 0), Due.BOUNDS);
    Due.isAndLeavesAll("open over 8", x, () -> x.open(0, 8, 0), Due.BOUNDS);
    x.previous(0);
    x.open(0, 0, 3);
    Due.isAndLeavesAll("a new one has no LAST", x, () -> x.take(0), -9);
  }

  private static void promise40Shut() {
    Splicemonoid x = walked();
    x.open(0, 0, 0);
    x.open(1, 0, 0);
    Due.is("shut(0)", () -> x.shut(0), 1);
    Due.is("shut(0) again", () -> x.shut(0), 0);
    Due.is("shut(2)", () -> x.shut(2), 0);
    Due.is("one is there", () -> x.house(2), 1);
    Due.is("that is 1", () -> x.ofCursor(1, 0), 0);
  }

  private static void promises41And42Walk() {
    Splicemonoid x = walked();
    x.open(0, 0, 0);
    Due.isAndLeavesAll("previous at the beginning", x, () -> x.previous(0), 100);
    for (int i = 0; i < 5; i++) {
      int item = 10 + i;
      Due.is("next", () -> x.next(0), item);
      Due.is("index", () -> x.ofCursor(0, 1), item - 9);
    }
    Due.isAndLeavesAll("next at the end", x, () -> x.next(0), 100);
    for (int i = 4; i >= 0; i--) {
      int item = 10 + i;
      Due.is("previous", () -> x.previous(0), item);
      Due.is("index", () -> x.ofCursor(0, 1), item - 10);
    }
    x.window(0, 0, 2, 4);
    x.open(1, 4, 1);
    Due.is("next in a window", () -> x.next(1), 13);
    Due.is("not beyond it", () -> x.next(1), 100);
    Due.is("previous in a window", () -> x.previous(1), 13);
    Due.is("previous in a window", () -> x.previous(1), 12);
    Due.is("not ahead of it", () -> x.previous(1), 100);
    Due.isAndLeavesAll("next without", x, () -> x.next(2), Due.STATE);
    Due.isAndLeavesAll("previous without", x, () -> x.previous(2), Due.STATE);
    x.set(0, 2, -1);
    Due.is("it sees the new item", () -> x.next(1), -1);
    x.open(2, 0, 4);
    x.next(2);
    x.next(2);
    Due.is("LAST stands though none was behind", () -> x.take(2), 4);
    Due.is("text", () -> x.text(0), "[10, 11, -1, 13]");
  }

  private static void promise43Put() {
    Splicemonoid x = walked();
    x.open(0, 0, 2);
    x.open(1, 0, 2);
    x.open(2, 1, 0);
    Due.is("put(0, -99)", () -> x.put(0, -99), 3);
    Due.is("put(0, 99)", () -> x.put(0, 99), 4);
    Due.is("text", () -> x.text(0), "[10, 11, -99, 99, 12, 13, 14]");
    Due.is("another one is gone", () -> x.ofCursor(1, 0), -1);
    Due.is("one over another row stands", () -> x.ofCursor(2, 0), 1);
    Due.is("it stands behind", () -> x.next(0), 12);
    Due.is("put after it told", () -> x.put(0, 1), 6);
    Due.isAndLeavesAll("no LAST then", x, () -> x.take(0), -9);
    Due.isAndLeavesAll("no LAST then", x, () -> x.replace(0, 1), -9);
    Due.isAndLeavesAll("put 100", x, () -> x.put(0, 100), Due.ARGUMENT);
    Due.isAndLeavesAll("put -100", x, () -> x.put(0, -100), Due.ARGUMENT);
    Due.isAndLeavesAll("put without", x, () -> x.put(1, 1), Due.STATE);
    Due.isAndLeavesAll("put 100 without", x, () -> x.put(1, 100), Due.ARGUMENT);
    for (int i = 0; i < 4; i++) {
      x.put(0, i);
    }
    Due.isAndLeavesAll("put in 12", x, () -> x.put(0, 1), Due.STATE);
    Due.isAndLeavesAll("put 100 in 12", x, () -> x.put(0, 100), Due.ARGUMENT);
    Due.is("12", () -> x.text(0), "[10, 11, -99, 99, 12, 1, 0, 1, 2, 3, 13, 14]");
  }

  private static void promise43PutInWindow() {
    Splicemonoid x = walked();
    x.window(0, 0, 1, 4);
    x.window(1, 4, 0, 2);
    x.window(2, 5, 0, 2);
    x.window(3, 0, 0, 5);
    x.open(0, 5, 2);
    x.open(1, 4, 0);
    x.open(2, 6, 0);
    Due.is("put at the end of a window", () -> x.put(0, 77), 3);
    Due.is("text", () -> x.text(0), "[10, 11, 12, 77, 13, 14]");
    Due.is("its holder", () -> x.ofWindow(0, 2), 4);
    Due.is("itself", () -> x.ofWindow(1, 2), 3);
    Due.is("what it holds is gone", () -> x.ofWindow(2, 2), -1);
    Due.is("what is beside it is gone", () -> x.ofWindow(3, 2), -1);
    Due.is("only the one that did it stands", () -> x.house(2), 1);
    Due.is("index", () -> x.ofCursor(0, 1), 3);
    for (int i = 0; i < 6; i++) {
      x.put(0, i);
    }
    Due.isAndLeavesAll("put in a window of 12", x, () -> x.put(0, 1), Due.STATE);
  }

  private static void promise44Take() {
    Splicemonoid x = walked();
    x.window(0, 0, 0, 4);
    x.window(1, 4, 1, 4);
    x.open(0, 4, 1);
    x.open(1, 0, 2);
    Due.isAndLeavesAll("take without LAST", x, () -> x.take(0), -9);
    x.next(0);
    Due.is("take what was ahead", () -> x.take(0), 1);
    Due.is("text", () -> x.text(0), "[10, 12, 13, 14]");
    Due.is("its where stands", () -> x.ofWindow(0, 2), 3);
    Due.is("what it holds is gone", () -> x.ofWindow(1, 2), -1);
    Due.is("another cursor is gone", () -> x.ofCursor(1, 0), -1);
    Due.isAndLeavesAll("take again", x, () -> x.take(0), -9);
    x.next(0);
    x.previous(0);
    Due.is("take what was behind", () -> x.take(0), 1);
    Due.is("text", () -> x.text(0), "[10, 13, 14]");
    x.previous(0);
    Due.is("take the first", () -> x.take(0), 0);
    Due.is("text", () -> x.text(0), "[13, 14]");
    Due.isAndLeavesAll("take without", x, () -> x.take(2), Due.STATE);
  }

  private static void promise45Replace() {
    Splicemonoid x = walked();
    x.window(0, 0, 1, 4);
    x.open(0, 4, 0);
    x.open(1, 0, 0);
    Due.isAndLeavesAll("replace without LAST", x, () -> x.replace(0, 1), -9);
    x.next(0);
    Due.is("replace what is ahead", () -> x.replace(0, -99), 1);
    Due.is("text", () -> x.text(0), "[10, -99, 12, 13, 14]");
    Due.is("it is no change", () -> x.house(1) * 10 + x.house(2), 12);
    Due.is("replace again", () -> x.replace(0, 99), 1);
    x.next(0);
    x.previous(0);
    Due.is("replace what is behind", () -> x.replace(0, 5), 1);
    Due.is("text", () -> x.text(0), "[10, 99, 5, 13, 14]");
    Due.is("the new one is LAST", () -> x.take(0), 1);
    Due.is("text", () -> x.text(0), "[10, 99, 13, 14]");
    Due.isAndLeavesAll("replace with 100", x, () -> x.replace(0, 100), Due.ARGUMENT);
    Due.isAndLeavesAll("replace with -100", x, () -> x.replace(0, -100), Due.ARGUMENT);
    Due.isAndLeavesAll("replace without", x, () -> x.replace(2, 1), Due.STATE);
    Due.isAndLeavesAll("replace with 100 without", x, () -> x.replace(2, 100), Due.ARGUMENT);
  }

  private static String all(Splicemonoid x, int cursor) {
    StringBuilder signs = new StringBuilder();
    for (int what = 0; what < 5; what++) {
      signs.append(x.ofCursor(cursor, what)).append(' ');
    }
    return signs.toString();
  }

  private static void promise46OfCursor() {
    Splicemonoid x = walked();
    x.window(3, 0, 0, 2);
    x.open(0, 0, 0);
    x.open(1, 7, 1);
    Due.is("at the beginning", () -> all(x, 0), "0 0 -1 1 0 ");
    Due.is("in the middle", () -> all(x, 1), "7 1 0 1 1 ");
    x.next(1);
    Due.is("at a window's end", () -> all(x, 1), "7 2 1 0 1 ");
    Due.is("not there", () -> all(x, 2), "-1 -1 -1 -1 -1 ");
    x.open(2, 2, 0);
    Due.is("over none", () -> all(x, 2), "2 0 -1 0 0 ");
    Due.isAndLeavesAll("what 5", x, () -> x.ofCursor(0, 5), Due.ARGUMENT);
    Due.isAndLeavesAll("what -1", x, () -> x.ofCursor(0, -1), Due.ARGUMENT);
    Due.isAndLeavesAll("cursor 3, what 5", x, () -> x.ofCursor(3, 5), Due.BOUNDS);
    x.shut(2);
    Due.isAndLeavesAll("not there, what 5", x, () -> x.ofCursor(2, 5), Due.ARGUMENT);
  }

  private static void lastIsAPlace() {
    Splicemonoid x = walked();
    x.open(0, 0, 0);
    x.next(0);
    x.reverse(0);
    Due.is("take what stands there since", () -> x.take(0), 0);
    Due.is("text", () -> x.text(0), "[13, 12, 11, 10]");
    x.next(0);
    x.swap(0, 0, 3);
    x.replace(0, 50);
    Due.is("text", () -> x.text(0), "[50, 12, 11, 13]");
    x.rotate(0, 1);
    x.fill(0, 7);
    x.set(0, 0, 8);
    Due.is("take", () -> x.take(0), 0);
    Due.is("text", () -> x.text(0), "[7, 7, 7]");
  }
}
