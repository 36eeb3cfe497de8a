/** The boundary cases of promises 1 to 17: rows and windows. */
public final class ActEdgesTest {
  private static final String NO_WHERE = "there is no such WHERE";
  private static final String NO_PLACE = "there is no such WHERE, or PLACE of it";
  private static final String NO_ITEM = "item is not -99 to 99";
  private static final String FULL = "the ROW has 12 ITEMS";
  private static final String NOTHING = "otherwise nothing is done)";
  private static final String NONE_FIRST = "100 without one";

  public static void main(String[] args) {
    promise1();
    promise2();
    promise3();
    promise4();
    promise5();
    promise6();
    promise7();
    promise8();
    promise9();
    promise10();
    promise11();
    promise12();
    promise13();
    promise14();
    promise15And16();
    promise17();
    Edges.end("ActEdgesTest", 1, 17);
  }

  private static void promise1() {
    Splicemonoid x = new Splicemonoid();
    Edges.of(1)
        .edge("Creates four ROWS without ITEMS", () -> {
          for (int i = 0; i < 4; i++) {
            int row = i;
            Due.is("size", () -> x.size(row), 0);
            Due.is("text", () -> x.text(row), "[]");
            Due.is("the first item", () -> x.get(row, 0), Due.BOUNDS);
          }
          Due.is("a fifth row", () -> x.hash(4), Due.BOUNDS);
          Due.is("items of all", () -> x.house(0), 0);
        })
        .edge("no WINDOW and no CURSOR is there", () -> {
          for (int i = 0; i < 4; i++) {
            int window = i;
            Due.is("its ground", () -> x.ofWindow(window, 0), -1);
            Due.is("its size", () -> x.size(window + 4), Due.BOUNDS);
            Due.is("close", () -> x.close(window), -9);
          }
          for (int i = 0; i < 3; i++) {
            int cursor = i;
            Due.is("its where", () -> x.ofCursor(cursor, 0), -1);
            Due.is("next", () -> x.next(cursor), Due.STATE);
            Due.is("shut", () -> x.shut(cursor), 0);
          }
          Due.is("windows", () -> x.house(1), 0);
          Due.is("cursors", () -> x.house(2), 0);
        })
        .all();
  }

  private static void promise2() {
    Edges.of(2)
        .edge("An ITEM comes behind the last one (a CHANGE)", () -> {
          Splicemonoid x = new Splicemonoid();
          Due.is("to none", () -> x.add(0, 5), 1);
          Due.is("text", () -> x.text(0), "[5]");
          Due.is("to one", () -> x.add(0, 6), 2);
          x.window(0, 0, 0, 0);
          Due.is("in an empty window ahead of all", () -> x.add(4, 7), 1);
          x.window(0, 0, 0, 2);
          Due.is("in a window that ends ahead of the last", () -> x.add(4, 8), 3);
          x.window(0, 0, 4, 4);
          Due.is("in an empty window behind all", () -> x.add(4, 9), 1);
          Due.is("text", () -> x.text(0), "[7, 5, 8, 6, 9]");
          Watch.isChange((y, where) -> y.add(where, 1));
        })
        .bounds(NO_WHERE, () -> Scene.noSuchWhere((x, where) -> x.add(where, 1)))
        .argument(NO_ITEM, () -> {
          Scene.noSuchItem((x, item) -> x.add(0, item));
          Scene.noSuchItem((x, item) -> x.add(5, item));
        })
        .state(FULL, () -> {
          Scene.leaves("the row", Scene::furnished, x -> x.add(3, 1), Due.STATE);
          Scene.leaves("a window of it", Scene::furnished, x -> x.add(7, 1), Due.STATE);
          Splicemonoid x = Scene.furnished();
          x.remove(3, 0);
          Due.is("of 11 it has 12 then", () -> x.add(3, 1), 12);
          Due.is("not more", () -> x.add(3, 1), Due.STATE);
        })
        .all();
  }

  private static void promise3() {
    Edges.of(3)
        .edge("those from there on go up (a CHANGE)", () -> {
          Splicemonoid x = Due.rows(Due.row(1, 2, 3));
          Due.is("all of them", () -> x.insert(0, 0, 7), 4);
          Due.is("the last one", () -> x.insert(0, 3, 8), 5);
          Due.is("text", () -> x.text(0), "[7, 1, 2, 8, 3]");
          Watch.isChange((y, where) -> y.insert(where, 0, 1));
          Watch.isChange((y, where) -> y.insert(where, 1, 1));
        })
        .edge("`place`: the PLACE, or how many there are: behind all", () -> {
          Splicemonoid x = new Splicemonoid();
          Due.is("of none", () -> x.insert(0, 0, 1), 1);
          Due.is("of one", () -> x.insert(0, 1, 2), 2);
          x.window(0, 0, 0, 1);
          Due.is("of one in a window", () -> x.insert(4, 1, 3), 2);
          x.window(1, 0, 3, 3);
          Due.is("of none in a window", () -> x.insert(5, 0, 4), 1);
          Due.is("text", () -> x.text(0), "[1, 3, 2, 4]");
          Watch.isChange((y, where) -> y.insert(where, y.size(where), 1));
        })
        .edge("REFUSED if there is no such PLACE", () -> {
          for (int where : new int[] {0, 1, 2, 4, 5, 6}) {
            int above = Scene.withEmptyWindow().size(where) + 1;
            int[] places = {Scene.LOW, -1, above, Scene.HIGH};
            Scene.Numbered insert = (x, place) -> x.insert(where, place, 1);
            Scene.each("in " + where, places, Scene::withEmptyWindow, insert, -9);
          }
        })
        .bounds(NO_WHERE, () -> Scene.noSuchWhere((x, where) -> x.insert(where, 0, 1)))
        .argument(NO_ITEM, () -> {
          Scene.noSuchItem((x, item) -> x.insert(0, 6, item));
          Scene.noSuchItem((x, item) -> x.insert(5, 0, item));
        })
        .state(FULL, () -> {
          int[] places = {0, 5, 12};
          Scene.Numbered insert = (x, place) -> x.insert(3, place, 1);
          Scene.each("the row, at", places, Scene::furnished, insert, Due.STATE);
          Scene.leaves("a window of it", Scene::furnished, x -> x.insert(7, 3, 1), Due.STATE);
          Splicemonoid x = Scene.furnished();
          x.remove(7, 0);
          Due.is("of 11 it has 12 then", () -> x.insert(7, 2, 1), 3);
          Due.is("12", () -> x.size(3), 12);
          Due.is("not more", () -> x.insert(3, 0, 1), Due.STATE);
        })
        .all();
  }

  private static void promise4() {
    Edges.of(4)
        .bounds(NO_PLACE, () -> {
          Scene.noSuchWhere((x, where) -> x.set(where, 0, 1));
          for (int where : new int[] {0, 1, 2, 3, 4, 5, 6, 7}) {
            Scene.noSuchPlace(where, (x, place) -> x.set(where, place, 1));
          }
          Splicemonoid x = Scene.furnished();
          Due.is("the first one", () -> x.set(3, 0, 50), 0);
          Due.is("the last one of 12", () -> x.set(3, 11, 51), 11);
          Due.is("the last one of a window", () -> x.set(7, 2, 52), 4);
          Due.is("text", () -> x.text(3), "[50, 1, 2, 3, 52, 5, 6, 7, 8, 9, 10, 51]");
        })
        .argument(NO_ITEM, () -> {
          Scene.noSuchItem((x, item) -> x.set(0, 5, item));
          Scene.noSuchItem((x, item) -> x.set(7, 2, item));
        })
        .all();
  }

  private static void promise5() {
    Edges.of(5)
        .edge("those behind it go down (a CHANGE)", () -> {
          Splicemonoid x = Scene.furnished();
          Due.is("none is behind the last one", () -> x.remove(3, 11), 11);
          Due.is("all are behind the first one", () -> x.remove(3, 0), 0);
          Due.is("text", () -> x.text(3), "[1, 2, 3, 4, 5, 6, 7, 8, 9, 10]");
          Due.is("the last one of a window", () -> x.remove(5, 1), 13);
          Due.is("and its only one", () -> x.remove(5, 0), 12);
          Due.is("those behind the window", () -> x.text(0), "[10, 11, 14, 15]");
          Due.is("a window may have none", () -> x.size(5), 0);
          Watch.isChange((y, where) -> y.remove(where, 0));
          Watch.isChange((y, where) -> y.remove(where, 1));
        })
        .bounds(NO_PLACE, () -> {
          Scene.noSuchWhere((x, where) -> x.remove(where, 0));
          for (int where : new int[] {0, 1, 2, 3, 4, 5, 6, 7}) {
            Scene.noSuchPlace(where, (x, place) -> x.remove(where, place));
          }
        })
        .all();
  }

  private static void promise6() {
    Edges.of(6)
        .edge("All ITEMS go (a CHANGE, if there are some", () -> {
          Splicemonoid x = Scene.furnished();
          Due.is("12", () -> x.clear(3), 12);
          Due.is("text", () -> x.text(3), "[]");
          Due.is("2 of a window", () -> x.clear(5), 2);
          Due.is("text", () -> x.text(0), "[10, 11, 14, 15]");
          x.remove(1, 0);
          x.open(0, 1, 0);
          Due.is("one alone", () -> x.clear(1), 1);
          Due.is("it is a change as well", () -> x.ofCursor(0, 0) + x.text(1), "-1[]");
          Watch.isChange((y, where) -> y.clear(where));
        })
        .edge(NOTHING, () -> {
          Scene.leaves("an empty window", Scene::withEmptyWindow, x -> x.clear(6), 0);
          Scene.Maker watched = () -> {
            Splicemonoid x = Scene.furnished();
            x.window(0, 2, 0, 0);
            x.window(1, 4, 0, 0);
            x.open(0, 4, 0);
            x.open(1, 2, 0);
            return x;
          };
          int[] empty = {2, 4, 5};
          Scene.each("an empty where", empty, watched, (x, where) -> x.clear(where), 0);
        })
        .bounds(NO_WHERE, () -> Scene.noSuchWhere((x, where) -> x.clear(where)))
        .all();
  }

  private static void promise7() {
    Edges.of(7)
        .edge(
            "ITEMS are taken out, and those of another WHERE (or the same one, as they are ahead of"
                + " this) come in their place, in their sequence (a CHANGE, if some are taken out,"
                + " or come",
            () -> {
              spliceWithTheSame();
              spliceOfOne();
              Watch.isChange((x, where) -> x.splice(where, 0, 1, 1));
              Watch.isChange((x, where) -> x.splice(where, 0, 1, 2));
              Watch.isChange((x, where) -> x.splice(where, 1, 1, 1));
              Watch.isChange((x, where) -> x.splice(where, 0, 2, 5));
              Watch.isChange((x, where) -> x.splice(where, 0, x.size(where), where));
            })
        .edge(NOTHING, () -> {
          Scene.each(
              "none out, none in", new int[] {0, 3, 6},
              Scene::withEmptyWindow, (x, place) -> x.splice(0, place, place, 6), 6);
          Scene.leaves("none in itself", Scene::withEmptyWindow, x -> x.splice(6, 0, 0, 6), 0);
          Scene.leaves("none in 12", Scene::furnished, x -> x.splice(3, 12, 12, 2), 12);
          Scene.leaves("none in none", Scene::furnished, x -> x.splice(2, 0, 0, 2), 0);
        })
        .edge("`to`: the PLACE behind the last one", () -> {
          Splicemonoid x = Scene.furnished();
          Due.is("all, to how many there are", () -> x.splice(1, 0, 2, 2), 0);
          Due.is("the last one alone", () -> x.splice(3, 11, 12, 2), 11);
          Due.is("text", () -> x.text(3), "[0, 1, 2, 3, 4, 5, 6, 7, 8, 9, 10]");
          Due.is("the first one alone", () -> x.splice(4, 0, 1, 2), 3);
          Due.is("text", () -> x.text(0), "[10, 12, 13, 14, 15]");
          Due.is("the last one of a window alone", () -> x.splice(4, 2, 3, 2), 2);
          Due.is("text", () -> x.text(0), "[10, 12, 13, 15]");
        })
        .edge("REFUSED if from is below 0, above to, or to is above how many there are", () -> {
          int[] belows = {Scene.LOW, -1};
          Scene.each("from", belows, Scene::furnished, (x, from) -> x.splice(0, from, 2, 1), -9);
          Scene.each("both", belows, Scene::furnished, (x, at) -> x.splice(0, at, at, 1), -9);
          Scene.each("to", belows, Scene::furnished, (x, to) -> x.splice(0, 0, to, 1), -9);
          int[] aboves = {2, 6, 7, Scene.HIGH};
          Scene.each("from", aboves, Scene::furnished, (x, from) -> x.splice(0, from, 1, 1), -9);
          int[] beyond = {7, Scene.HIGH};
          Scene.each("to", beyond, Scene::furnished, (x, to) -> x.splice(0, 6, to, 1), -9);
          Scene.each("both", beyond, Scene::furnished, (x, at) -> x.splice(0, at, at, 1), -9);
          Scene.leaves("behind a window", Scene::furnished, x -> x.splice(5, 0, 3, 1), -9);
          Scene.leaves("of none", Scene::furnished, x -> x.splice(2, 0, 1, 1), -9);
          Scene.leaves(
              "all", Scene::furnished, x -> x.splice(0, Scene.LOW, Scene.HIGH, 1), -9);
        })
        .bounds("there is no such WHERE as where or with", () -> {
          Scene.noSuchWhere((x, where) -> x.splice(where, 0, 0, 0));
          Scene.noSuchWhere((x, with) -> x.splice(0, 0, 0, with));
          Scene.noSuchWhere((x, both) -> x.splice(both, 0, 0, both));
        })
        .state("it is not REFUSED, and the ROW would have more than 12 ITEMS", () -> {
          Scene.leaves("13", Scene::furnished, x -> x.splice(3, 0, 1, 1), Due.STATE);
          Scene.leaves("24", Scene::furnished, x -> x.splice(3, 0, 0, 3), Due.STATE);
          Scene.leaves("13 by a window", Scene::furnished, x -> x.splice(7, 0, 1, 1), Due.STATE);
          Scene.leaves("14 at its end", Scene::furnished, x -> x.splice(7, 3, 3, 1), Due.STATE);
          Scene.leaves("14, refused", Scene::furnished, x -> x.splice(7, 4, 4, 1), -9);
          Scene.leaves("13, refused", Scene::furnished, x -> x.splice(3, 1, 0, 1), -9);
          Splicemonoid x = Scene.furnished();
          Due.is("12", () -> x.splice(3, 0, 2, 1), 12);
          Due.is("12 by 6 of itself", () -> x.splice(0, 3, 3, 0), 12);
          Due.is("text", () -> x.text(0), "[10, 11, 12, 10, 11, 12, 13, 14, 15, 13, 14, 15]");
        })
        .all();
  }

  private static void spliceWithTheSame() {
    Splicemonoid x = Scene.furnished();
    Due.is("a row with itself", () -> x.splice(0, 0, 5, 0), 7);
    Due.is("text", () -> x.text(0), "[10, 11, 12, 13, 14, 15, 15]");
    x.window(0, 0, 1, 5);
    Due.is("a window with its row", () -> x.splice(4, 1, 3, 0), 9);
    Due.is("text", () -> x.text(0), "[10, 11, 10, 11, 12, 13, 14, 15, 15, 14, 15, 15]");
    x.window(1, 4, 7, 9);
    Due.is("a ground with its window", () -> x.splice(4, 0, 7, 5), 4);
    Due.is("text", () -> x.text(0), "[10, 15, 14, 15, 14, 15, 15]");
    Due.is("that is gone", () -> x.ofWindow(1, 0), -1);
    Due.is("a window with itself", () -> x.splice(4, 4, 4, 4), 8);
    Due.is("text", () -> x.text(0), "[10, 15, 14, 15, 14, 15, 14, 15, 14, 15, 15]");
    Splicemonoid y = Scene.furnished();
    Due.is("with a window of another row", () -> y.splice(5, 0, 2, 7), 3);
    Due.is("text", () -> y.text(0), "[10, 11, 2, 3, 4, 14, 15]");
    Due.is("which stands", () -> y.ofWindow(3, 2), 3);
    Due.is("with its items", () -> y.text(3), "[0, 1, 2, 3, 4, 5, 6, 7, 8, 9, 10, 11]");
  }

  private static void spliceOfOne() {
    Splicemonoid x = Due.rows(Due.row(1, 2), Due.row(9));
    x.open(0, 0, 0);
    Due.is("one comes, none goes", () -> x.splice(0, 1, 1, 1), 3);
    Due.is("it is a change", () -> x.ofCursor(0, 0) + x.text(0), "-1[1, 9, 2]");
    x.open(0, 0, 0);
    Due.is("one goes, none comes", () -> x.splice(0, 2, 3, 2), 2);
    Due.is("it is a change", () -> x.ofCursor(0, 0) + x.text(0), "-1[1, 9]");
    x.open(0, 0, 0);
    Due.is("one comes for its like", () -> x.splice(0, 1, 2, 1), 2);
    Due.is("it is a change", () -> x.ofCursor(0, 0) + x.text(0), "-1[1, 9]");
  }

  private static Splicemonoid five() {
    Splicemonoid x = Due.rows(Due.row(1, 2, 3, 4, 5), Due.row(9));
    x.window(0, 0, 1, 4);
    return x;
  }

  private static void promise8() {
    Edges.of(8)
        .edge("from the end it goes on at the beginning (below 0: down likewise)", () -> {
          int[] by = {1, 4, 5, 6, 0, -1, -4, -5, -6, 99, -99};
          int[] firsts = {5, 2, 1, 5, 1, 2, 5, 1, 2, 2, 5};
          for (int i = 0; i < by.length; i++) {
            int at = i;
            Due.is("by " + by[i], () -> five().rotate(0, by[at]), firsts[i]);
          }
          Splicemonoid x = five();
          Due.is("in a window by 2", () -> x.rotate(4, 2), 3);
          Due.is("text", () -> x.text(0), "[1, 3, 4, 2, 5]");
          Due.is("in a window by -2", () -> x.rotate(4, -2), 2);
          Due.is("text", () -> x.text(0), "[1, 2, 3, 4, 5]");
          Due.is("one alone by 99", () -> x.rotate(1, 99), 9);
          Due.is("one alone by -99", () -> x.rotate(1, -99), 9);
        })
        .edge(NONE_FIRST, () -> {
          Scene.leaves("a row", Scene::furnished, x -> x.rotate(2, 1), 100);
          Scene.leaves("a row by 0", Scene::furnished, x -> x.rotate(2, 0), 100);
          Scene.leaves("a row by -99", Scene::furnished, x -> x.rotate(2, -99), 100);
          Scene.leaves("a window", Scene::withEmptyWindow, x -> x.rotate(6, 7), 100);
        })
        .bounds(NO_WHERE, () -> Scene.noSuchWhere((x, where) -> x.rotate(where, 1)))
        .argument("by is not -99 to 99", () -> {
          Scene.noSuchNumber(-99, 99, (x, by) -> x.rotate(0, by));
          Scene.noSuchNumber(-99, 99, (x, by) -> x.rotate(2, by));
        })
        .all();
  }

  private static void promise9() {
    Edges.of(9)
        .edge(NONE_FIRST, () -> {
          Scene.leaves("a row", Scene::furnished, x -> x.reverse(2), 100);
          Scene.leaves("a window", Scene::withEmptyWindow, x -> x.reverse(6), 100);
          Due.is("one alone", () -> five().reverse(1), 9);
          Due.is("a window", () -> five().reverse(4), 4);
        })
        .bounds(NO_WHERE, () -> Scene.noSuchWhere((x, where) -> x.reverse(where)))
        .all();
  }

  private static void promise10() {
    Edges.of(10)
        .edge("`other`: that of the other one (or the same)", () -> {
          Scene.leaves("the same", Scene::furnished, x -> x.swap(0, 0, 0), 10);
          Scene.leaves("the same in a window", Scene::furnished, x -> x.swap(5, 1, 1), 13);
          Splicemonoid x = Scene.furnished();
          Due.is("the first and the last one", () -> x.swap(3, 0, 11), 11);
          Due.is("those of a window", () -> x.swap(7, 2, 0), 2);
          Due.is("text", () -> x.text(3), "[11, 1, 4, 3, 2, 5, 6, 7, 8, 9, 10, 0]");
        })
        .bounds("there is no such WHERE, or PLACE of it (of both)", () -> {
          Scene.noSuchWhere((x, where) -> x.swap(where, 0, 0));
          for (int where : new int[] {0, 1, 2, 3, 4, 5, 6, 7}) {
            Scene.noSuchPlace(where, (x, one) -> x.swap(where, one, 0));
            Scene.noSuchPlace(where, (x, other) -> x.swap(where, 0, other));
            Scene.noSuchPlace(where, (x, both) -> x.swap(where, both, both));
          }
        })
        .all();
  }

  /** Windows and cursors over a row of so many items, of which the first is 0. */
  private static Splicemonoid few(int many) {
    Splicemonoid x = new Splicemonoid();
    x.places(0, many);
    x.window(0, 0, 0, many);
    x.window(1, 4, 0, many);
    x.open(0, 4, 0);
    x.open(1, 0, many);
    return x;
  }

  private static String textOf(int many, Scene.Ask act) {
    Splicemonoid x = few(many);
    act.told(x);
    return x.text(0);
  }

  private static void littleIsLeft(Scene.Numbered act) {
    for (int many = 0; many < 2; many++) {
      int n = many;
      Scene.each("of " + n + ": ", new int[] {0, 4, 5}, () -> few(n), act, n);
    }
    Scene.leaves("an empty window", Scene::withEmptyWindow, x -> act.told(x, 6), 0);
    Scene.Maker narrow = () -> {
      Splicemonoid x = Scene.furnished();
      x.window(2, 0, 3, 4);
      return x;
    };
    Scene.leaves("a window of one", narrow, x -> act.told(x, 6), 1);
  }

  private static void promise11() {
    Edges.of(11)
        .edge(
            "Of n ITEMS the first half (those at the PLACES below (n + 1) / 2, rounded down) and"
                + " the second one are laid into one another, one by one: the first of the first"
                + " half, the first of the second half, and so on (a CHANGE with two ITEMS and"
                + " more",
            () -> {
              Due.is("2", () -> textOf(2, x -> x.riffle(0)), "[0, 1]");
              Due.is("3", () -> textOf(3, x -> x.riffle(0)), "[0, 2, 1]");
              Due.is("4", () -> textOf(4, x -> x.riffle(0)), "[0, 2, 1, 3]");
              Due.is("5", () -> textOf(5, x -> x.riffle(0)), "[0, 3, 1, 4, 2]");
              Due.is(
                  "12", () -> textOf(12, x -> x.riffle(0)),
                  "[0, 6, 1, 7, 2, 8, 3, 9, 4, 10, 5, 11]");
              Splicemonoid x = few(2);
              Due.is("2 are as they were", () -> x.riffle(5), 2);
              Due.is("but it is a change", () -> x.house(2), 0);
              Splicemonoid z = Scene.furnished();
              Due.is("a window", () -> z.riffle(4), 4);
              Due.is("text", () -> z.text(0), "[10, 11, 13, 12, 14, 15]");
              Watch.isChange((y, where) -> y.riffle(where));
            })
        .edge(NOTHING, () -> littleIsLeft((x, where) -> x.riffle(where)))
        .bounds(NO_WHERE, () -> Scene.noSuchWhere((x, where) -> x.riffle(where)))
        .all();
  }

  private static void promise12() {
    Edges.of(12)
        .edge(
            "The ITEMS at the PLACES 1, 3, 5 and so on are taken out, and come behind the others,"
                + " in their sequence (a CHANGE with two ITEMS and more",
            () -> {
              Due.is("2", () -> textOf(2, x -> x.unriffle(0)), "[0, 1]");
              Due.is("3", () -> textOf(3, x -> x.unriffle(0)), "[0, 2, 1]");
              Due.is("4", () -> textOf(4, x -> x.unriffle(0)), "[0, 2, 1, 3]");
              Due.is("5", () -> textOf(5, x -> x.unriffle(0)), "[0, 2, 4, 1, 3]");
              Due.is(
                  "12", () -> textOf(12, x -> x.unriffle(0)),
                  "[0, 2, 4, 6, 8, 10, 1, 3, 5, 7, 9, 11]");
              Splicemonoid x = few(2);
              Due.is("2 are as they were", () -> x.unriffle(5), 2);
              Due.is("but it is a change", () -> x.house(2), 0);
              Splicemonoid z = Scene.furnished();
              Due.is("a window", () -> z.unriffle(4), 4);
              Due.is("text", () -> z.text(0), "[10, 11, 13, 12, 14, 15]");
              Watch.isChange((y, where) -> y.unriffle(where));
            })
        .edge(NOTHING, () -> littleIsLeft((x, where) -> x.unriffle(where)))
        .bounds(NO_WHERE, () -> Scene.noSuchWhere((x, where) -> x.unriffle(where)))
        .all();
  }

  /** A sort is a change also where nothing moves: the document sets no condition. */
  private static void isChangeOfFew(Scene.Numbered act) {
    for (int many = 0; many < 3; many++) {
      Splicemonoid x = few(many);
      act.told(x, 4);
      Due.is("in a window of " + many, () -> x.house(1) * 10 + x.house(2), 10);
      Splicemonoid y = few(many);
      act.told(y, 0);
      Due.is("in a row of " + many, () -> y.house(1) * 10 + y.house(2), 0);
    }
  }

  private static void noneComesFirst(Scene.Numbered act) {
    Due.is("a row", () -> act.told(Scene.furnished(), 2), 100);
    Due.is("a window", () -> act.told(Scene.withEmptyWindow(), 6), 100);
    Splicemonoid x = Scene.withEmptyWindow();
    act.told(x, 6);
    Due.is("text", () -> x.text(0), "[10, 11, 12, 13, 14, 15]");
    Due.is("one alone", () -> act.told(five(), 1), 9);
  }

  private static void promise13() {
    Edges.of(13)
        .edge("The ITEMS stand by rising numbers then (a CHANGE)", () -> {
          Splicemonoid x = Due.rows(Due.row(99, -99, 0, -1, 1, -99, 99), Due.row(3, 2, 1, 0));
          Due.is("sort", () -> x.sort(0), -99);
          Due.is("text", () -> x.text(0), "[-99, -99, -1, 0, 1, 99, 99]");
          x.window(0, 1, 1, 3);
          Due.is("a window", () -> x.sort(4), 1);
          Due.is("text", () -> x.text(1), "[3, 1, 2, 0]");
          Splicemonoid full = Scene.furnished();
          full.reverse(3);
          Due.is("12", () -> full.sort(3), 0);
          Due.is("text", () -> full.text(3), "[0, 1, 2, 3, 4, 5, 6, 7, 8, 9, 10, 11]");
          Watch.isChange((y, where) -> y.sort(where));
          isChangeOfFew((y, where) -> y.sort(where));
        })
        .edge(NONE_FIRST, () -> noneComesFirst((x, where) -> x.sort(where)))
        .bounds(NO_WHERE, () -> Scene.noSuchWhere((x, where) -> x.sort(where)))
        .all();
  }

  private static void promise14() {
    Edges edges = Edges.of(14);
    edges.edge("those that are alike in it keep their sequence (a CHANGE)", () -> {
      Splicemonoid x = Due.rows(Due.row(21, 1, -9, 11, 30, 0, -99, 91));
      Due.is("left by 10", () -> x.sortBy(0, 1), 30);
      Due.is("text", () -> x.text(0), "[30, 0, 21, 1, -9, 11, -99, 91]");
      Due.is("below 0", () -> x.sortBy(0, 2), -9);
      Due.is("text", () -> x.text(0), "[-9, -99, 30, 0, 21, 1, 11, 91]");
      for (int i = 0; i < 3; i++) {
        int by = i;
        Watch.isChange((y, where) -> y.sortBy(where, by));
        isChangeOfFew((y, where) -> y.sortBy(where, by));
      }
    });
    edges.edge(
        "`by`: 0 by falling numbers, 1 by what is left of them by 10 (0 to 9, also of those below"
            + " 0), 2 those below 0 ahead of all others",
        () -> {
          Splicemonoid x =
              Due.rows(Due.row(-99, 99, 0, -1, 1), Due.row(9, -1, -2, -9, -10, 0, -99));
          Due.is("falling", () -> x.sortBy(0, 0), 99);
          Due.is("text", () -> x.text(0), "[99, 1, 0, -1, -99]");
          Due.is("left by 10", () -> x.sortBy(1, 1), -10);
          Due.is("text", () -> x.text(1), "[-10, 0, -9, -99, -2, 9, -1]");
          Due.is("0 is not below 0", () -> x.sortBy(1, 2), -10);
          Due.is("text", () -> x.text(1), "[-10, -9, -99, -2, -1, 0, 9]");
        });
    edges.edge(NONE_FIRST, () -> {
      for (int i = 0; i < 3; i++) {
        int by = i;
        noneComesFirst((x, where) -> x.sortBy(where, by));
      }
    });
    edges.bounds(NO_WHERE, () -> Scene.noSuchWhere((x, where) -> x.sortBy(where, 0)));
    edges.argument("by is not 0 to 2", () -> {
      Scene.noSuchNumber(0, 2, (x, by) -> x.sortBy(0, by));
      Scene.noSuchNumber(0, 2, (x, by) -> x.sortBy(2, by));
    });
    edges.all();
  }

  private static void promise15And16() {
    Edges.of(15)
        .bounds(NO_PLACE, () -> {
          Scene.noSuchWhere((x, where) -> x.get(where, 0));
          for (int where : new int[] {0, 1, 2, 3, 4, 5, 6, 7}) {
            Scene.noSuchPlace(where, (x, place) -> x.get(where, place));
          }
          Due.is("the first one", () -> Scene.furnished().get(3, 0), 0);
          Due.is("the last one of 12", () -> Scene.furnished().get(3, 11), 11);
          Due.is("the last one of a window", () -> Scene.furnished().get(5, 1), 13);
        })
        .all();
    Edges.of(16)
        .bounds(NO_WHERE, () -> {
          Scene.noSuchWhere((x, where) -> x.size(where));
          int[] sizes = {6, 2, 0, 12, 4, 2, 0, 3};
          for (int i = 0; i < 8; i++) {
            int where = i;
            Due.is("size of " + i, () -> Scene.withEmptyWindow().size(where), sizes[i]);
          }
        })
        .all();
  }

  private static void promise17() {
    Edges.of(17)
        .edge(
            "Returns the first PLACE from which on the ITEMS of the second one stand in the first"
                + " one, one behind the other (0 of a second one without ITEMS)",
            () -> {
              Splicemonoid x = Due.rows(Due.row(1, 1, 2, 1, 1, 2), Due.row(1, 2), Due.row(2));
              Due.is("the first of two", () -> x.partAt(0, 1), 1);
              Due.is("one item", () -> x.partAt(1, 2), 1);
              Due.is("itself", () -> x.partAt(0, 0), 0);
              Due.is("of none", () -> x.partAt(0, 3), 0);
              Due.is("of none in none", () -> x.partAt(3, 3), 0);
              x.window(0, 0, 3, 6);
              x.window(1, 0, 6, 6);
              Due.is("at the end of a window", () -> x.partAt(4, 1), 1);
              Due.is("a window in its row", () -> x.partAt(0, 4), 0);
              Due.is("of an empty window", () -> x.partAt(4, 5), 0);
              Due.is("of none in an empty window", () -> x.partAt(5, 3), 0);
            })
        .edge("NONE without", () -> {
          Splicemonoid x = Due.rows(Due.row(1, 2, 3), Due.row(3, 4), Due.row(1, 3));
          Due.is("it goes on beyond the end", () -> x.partAt(0, 1), -1);
          Due.is("not one behind the other", () -> x.partAt(0, 2), -1);
          Due.is("more than there are", () -> x.partAt(2, 0), -1);
          Due.is("one in none", () -> x.partAt(3, 2), -1);
          x.window(0, 0, 0, 2);
          x.window(1, 0, 1, 3);
          Due.is("a row in its window", () -> x.partAt(4, 0), -1);
          Due.is("beyond a window", () -> x.partAt(4, 5), -1);
        })
        .bounds("there is no such WHERE as where or part", () -> {
          Scene.noSuchWhere((x, where) -> x.partAt(where, 0));
          Scene.noSuchWhere((x, part) -> x.partAt(0, part));
          Scene.noSuchWhere((x, part) -> x.partAt(2, part));
          Scene.noSuchWhere((x, both) -> x.partAt(both, both));
        })
        .all();
  }
}
