/** The boundary cases of promises 18 to 35: rows alone. */
public final class RowEdgesTest {
  private static final String NO_ROW = "there is no such ROW";
  private static final String NO_ROWS = "there is no such ROW as row or from";
  private static final String NO_OTHER = "there is no such ROW as row or other";
  private static final String NO_ITEM = "item is not -99 to 99";
  private static final String WITHOUT = "NONE without";
  private static final String FULL_TEXT = "[0, 1, 2, 3, 4, 5, 6, 7, 8, 9, 10, 11]";

  public static void main(String[] args) {
    promise18();
    promise19();
    promise20();
    promise21();
    promise22();
    promise23();
    promise24();
    promise25();
    promises26And27();
    promises28And29();
    promise30();
    promises31And32();
    promises33And34();
    promise35();
    Edges.end("RowEdgesTest", 18, 35);
  }

  private static void promise18() {
    Edges.of(18)
        .edge("All ITEMS of a ROW become the same", () -> {
          Splicemonoid x = Scene.furnished();
          Due.is("12", () -> x.fill(3, -99), 12);
          Due.is("all of them", () -> x.howOften(3, -99), 12);
          Due.is("its window sees them", () -> x.get(7, 2), -99);
          Due.is("no other row", () -> x.text(1), "[7, 8]");
          Due.is("2", () -> x.fill(1, 99), 2);
          Due.is("text", () -> x.text(1), "[99, 99]");
          Scene.leaves("none", Scene::furnished, y -> y.fill(2, 5), 0);
          Watch.isNoChange((y, where) -> y.fill(0, 5));
        })
        .bounds(NO_ROW, () -> Scene.noSuchRow((x, row) -> x.fill(row, 1)))
        .argument(NO_ITEM, () -> {
          Scene.noSuchItem((x, item) -> x.fill(0, item));
          Scene.noSuchItem((x, item) -> x.fill(2, item));
        })
        .all();
  }

  private static void promise19() {
    int[] absent = {12, -1, 100, -100, Scene.LOW, Scene.HIGH};
    Edges.of(19)
        .edge("The first ITEM that is a number goes, if there is one (a CHANGE then", () -> {
          Splicemonoid x = Due.rows(Due.row(5, 6, 5, 7, 5));
          Due.is("the first of three", () -> x.removeItem(0, 5), 1);
          Due.is("text", () -> x.text(0), "[6, 5, 7, 5]");
          Due.is("7", () -> x.removeItem(0, 7), 1);
          Due.is("the first of two", () -> x.removeItem(0, 5), 1);
          Due.is("the last place", () -> x.removeItem(0, 5), 1);
          Due.is("the only one", () -> x.removeItem(0, 6), 1);
          Due.is("text", () -> x.text(0), "[]");
          Watch.isAnother((y, row) -> y.removeItem(row, y.get(row, 0)));
          Watch.isAnother((y, row) -> y.removeItem(row, y.get(row, y.size(row) - 1)));
        })
        .edge("otherwise nothing is done)", () -> {
          Scene.each("of 12:", absent, Scene::furnished, (x, item) -> x.removeItem(3, item), 0);
          Scene.each("of none:", absent, Scene::furnished, (x, item) -> x.removeItem(2, item), 0);
        })
        .edge("Returns 1 if there was one, otherwise 0", () -> {
          Due.is("the last of 12", () -> Scene.furnished().removeItem(3, 11), 1);
          Due.is("0 of 12", () -> Scene.furnished().removeItem(3, 0), 1);
          Due.is("0 of none", () -> Scene.furnished().removeItem(2, 0), 0);
          Splicemonoid x = Scene.furnished();
          x.removeItem(3, 11);
          Due.is("what went", () -> x.removeItem(3, 11), 0);
        })
        .bounds(NO_ROW, () -> Scene.noSuchRow((x, row) -> x.removeItem(row, 1)))
        .all();
  }

  private static void promise20() {
    int[] wrong = {Scene.LOW, -1, 7, Scene.HIGH};
    int[] any = {Scene.LOW, -1, 0, 6, 7, Scene.HIGH};
    Edges.of(20)
        .edge(
            "The ITEMS of another ROW (or the same one, as they are ahead of this) come to a PLACE,"
                + " in their sequence (nothing is done, if it has none)",
            () -> {
              Splicemonoid x = Scene.furnished();
              Due.is("another one", () -> x.addAll(1, 1, 0), 8);
              Due.is("text", () -> x.text(1), "[7, 10, 11, 12, 13, 14, 15, 8]");
              Due.is("that stands", () -> x.text(0), "[10, 11, 12, 13, 14, 15]");
              Due.is("the same one", () -> x.addAll(0, 3, 0), 12);
              Due.is("text", () -> x.text(0), "[10, 11, 12, 10, 11, 12, 13, 14, 15, 13, 14, 15]");
              Due.is("to none", () -> x.addAll(2, 0, 3), 12);
              Due.is("text", () -> x.text(2), FULL_TEXT);
              Scene.each("none at", any, Scene::furnished, (y, at) -> y.addAll(0, at, 2), 6);
              Scene.leaves("none to 12", Scene::furnished, y -> y.addAll(3, 12, 2), 12);
              Scene.leaves("none to itself", Scene::furnished, y -> y.addAll(2, 0, 2), 0);
              Watch.isAnother((y, row) -> y.addAll(row, 0, 1));
            })
        .edge("`place`: the PLACE, or how many there are: behind all", () -> {
          Splicemonoid x = Scene.furnished();
          Due.is("behind all", () -> x.addAll(0, 6, 1), 8);
          Due.is("text", () -> x.text(0), "[10, 11, 12, 13, 14, 15, 7, 8]");
          Due.is("ahead of all", () -> x.addAll(0, 0, 1), 10);
          Due.is("text", () -> x.text(0), "[7, 8, 10, 11, 12, 13, 14, 15, 7, 8]");
          Due.is("ahead of the last one", () -> x.addAll(0, 9, 1), 12);
          Due.is("text", () -> x.text(0), "[7, 8, 10, 11, 12, 13, 14, 15, 7, 7, 8, 8]");
          Due.is("the same one behind all", () -> x.addAll(1, 2, 1), 4);
          Due.is("text", () -> x.text(1), "[7, 8, 7, 8]");
        })
        .edge("REFUSED if it has some, and there is no such PLACE", () -> {
          Scene.each("place", wrong, Scene::furnished, (x, place) -> x.addAll(0, place, 1), -9);
          Scene.each("itself", wrong, Scene::furnished, (x, place) -> x.addAll(0, place, 0), -9);
          Scene.leaves("1 of none", Scene::furnished, x -> x.addAll(2, 1, 3), -9);
          Scene.leaves("-1 of none", Scene::furnished, x -> x.addAll(2, -1, 1), -9);
        })
        .bounds(NO_ROWS, () -> {
          Scene.noSuchRow((x, row) -> x.addAll(row, 0, 1));
          Scene.noSuchRow((x, from) -> x.addAll(0, 0, from));
          Scene.noSuchRow((x, both) -> x.addAll(both, 0, both));
        })
        .state("the ROW would have more than 12 ITEMS", () -> {
          Scene.leaves("14", Scene::furnished, x -> x.addAll(3, 0, 1), Due.STATE);
          Scene.leaves("18", Scene::furnished, x -> x.addAll(0, 6, 3), Due.STATE);
          Scene.leaves("24", Scene::furnished, x -> x.addAll(3, 12, 3), Due.STATE);
          Scene.each(
              "14, at no place:", any, Scene::furnished, (x, at) -> x.addAll(1, at, 3), Due.STATE);
          Scene.Maker eleven = () -> {
            Splicemonoid x = Scene.furnished();
            x.remove(3, 0);
            return x;
          };
          Scene.leaves("13", eleven, x -> x.addAll(3, 0, 1), Due.STATE);
          Splicemonoid x = eleven.made();
          x.remove(1, 0);
          Due.is("12", () -> x.addAll(3, 11, 1), 12);
          Due.is("12 of itself", () -> x.addAll(0, 0, 0), 12);
        })
        .all();
  }

  private static void promise21() {
    Edges.of(21)
        .edge("All ITEMS go that another ROW (or the same one) has as well", () -> {
          Splicemonoid x = Due.rows(Due.row(1, 2, 1, 3, 2, 4), Due.row(2, 1, 7), Due.row(8));
          Due.is("none of them", () -> x.removeAll(0, 2), 0);
          Due.is("none of none", () -> x.removeAll(0, 3), 0);
          Due.is("from none", () -> x.removeAll(3, 0), 0);
          Due.is("text", () -> x.text(0), "[1, 2, 1, 3, 2, 4]");
          Due.is("each as often as it stands", () -> x.removeAll(0, 1), 4);
          Due.is("text", () -> x.text(0), "[3, 4]");
          Due.is("the same one", () -> x.removeAll(0, 0), 2);
          Due.is("text", () -> x.text(0), "[]");
          Due.is("12", () -> Scene.furnished().removeAll(3, 3), 12);
          Due.is("7 and 8 of 12", () -> Scene.furnished().removeAll(3, 1), 2);
        })
        .bounds(NO_ROWS, () -> {
          Scene.noSuchRow((x, row) -> x.removeAll(row, 1));
          Scene.noSuchRow((x, from) -> x.removeAll(0, from));
          Scene.noSuchRow((x, both) -> x.removeAll(both, both));
        })
        .all();
  }

  private static void promise22() {
    Edges.of(22)
        .edge("All ITEMS go that another ROW (or the same one) has not", () -> {
          Splicemonoid x = Due.rows(Due.row(1, 2, 1, 3, 2, 4), Due.row(2, 1, 7), Due.row(8));
          Due.is("the same one", () -> x.retainAll(0, 0), 0);
          Due.is("from none", () -> x.retainAll(3, 0), 0);
          Due.is("text", () -> x.text(0), "[1, 2, 1, 3, 2, 4]");
          Due.is("each stays as often as it stands", () -> x.retainAll(0, 1), 2);
          Due.is("text", () -> x.text(0), "[1, 2, 1, 2]");
          Due.is("all of them", () -> x.retainAll(0, 2), 4);
          Due.is("text", () -> x.text(0), "[]");
          Due.is("that none has", () -> x.retainAll(1, 3), 3);
          Due.is("text", () -> x.text(1), "[]");
          Due.is("12", () -> Scene.furnished().retainAll(3, 2), 12);
          Due.is("7 and 8 of 12 stay", () -> Scene.furnished().retainAll(3, 1), 10);
        })
        .bounds(NO_ROWS, () -> {
          Scene.noSuchRow((x, row) -> x.retainAll(row, 1));
          Scene.noSuchRow((x, from) -> x.retainAll(0, from));
          Scene.noSuchRow((x, both) -> x.retainAll(both, both));
        })
        .all();
  }

  private static void promise23() {
    Edges.of(23)
        .edge("A ROW becomes another one: with the ITEMS of a WHERE", () -> {
          Splicemonoid x = Scene.withEmptyWindow();
          Due.is("12", () -> x.copy(3, 1), 12);
          Due.is("text", () -> x.text(1), FULL_TEXT);
          x.set(3, 0, 50);
          x.set(1, 11, 60);
          Due.is("it is a row of its own", () -> x.get(1, 0) * 100 + x.get(3, 11), 11);
          Due.is("a window of another row", () -> x.copy(7, 2), 3);
          Due.is("text", () -> x.text(2), "[2, 3, 4]");
          Due.is("an empty window", () -> x.copy(6, 3), 0);
          Due.is("text", () -> x.text(3), "[]");
          Watch.isAnother((y, row) -> y.copy(1 - row, row));
          Watch.isAnother((y, row) -> y.copy(2, row));
        })
        .edge("`where`: the WHERE (as it is ahead of this)", () -> {
          Splicemonoid x = Scene.furnished();
          Due.is("a window of itself", () -> x.copy(4, 0), 4);
          Due.is("text", () -> x.text(0), "[11, 12, 13, 14]");
          Due.is("that is gone", () -> x.ofWindow(0, 0), -1);
          Due.is("itself", () -> x.copy(3, 3), 12);
          Due.is("text", () -> x.text(3), FULL_TEXT);
          Due.is("none as none", () -> x.copy(2, 2), 0);
          Due.is("text", () -> x.text(2), "[]");
          Watch.isAnother((y, row) -> y.copy(row, row));
        })
        .bounds("there is no such WHERE, or ROW", () -> {
          Scene.noSuchWhere((x, where) -> x.copy(where, 0));
          Scene.noSuchRow((x, row) -> x.copy(0, row));
          Scene.noSuchWhere((x, both) -> x.copy(both, both));
        })
        .all();
  }

  private static void promise24() {
    Edges.of(24)
        .edge("A ROW becomes another one: 0, 1, 2 and so on", () -> {
          Splicemonoid x = Scene.furnished();
          Due.is("12", () -> x.places(0, 12), 12);
          Due.is("text", () -> x.text(0), FULL_TEXT);
          Due.is("1", () -> x.places(3, 1), 1);
          Due.is("text", () -> x.text(3), "[0]");
          Due.is("0", () -> x.places(0, 0), 0);
          Due.is("text", () -> x.text(0), "[]");
          Due.is("0 of none", () -> x.places(2, 0), 0);
          Watch.isAnother((y, row) -> y.places(row, 3));
          Watch.isAnother((y, row) -> y.places(row, 0));
          Watch.isAnother((y, row) -> y.places(row, 12));
        })
        .bounds(NO_ROW, () -> Scene.noSuchRow((x, row) -> x.places(row, 1)))
        .argument("many is not 0 to 12", () -> {
          Scene.noSuchNumber(0, 12, (x, many) -> x.places(0, many));
          Scene.noSuchNumber(0, 12, (x, many) -> x.places(2, many));
        })
        .all();
  }

  /** Row 2 is a map of as many items as there are; 5 is a window of the map's first two ones. */
  private static Splicemonoid mapped(int... map) {
    Splicemonoid x = Due.rows(Due.row(50, 60, 70, 80), Due.row(1, 2), map);
    x.window(0, 0, 1, 3);
    x.window(1, 2, 0, Math.min(2, map.length));
    x.open(0, 4, 1);
    x.open(1, 1, 0);
    x.next(1);
    return x;
  }

  private static void promise25() {
    Edges.of(25)
        .edge(
            "A ROW becomes another one: for each ITEM of a second WHERE, in their sequence, the"
                + " ITEM of the first one at that PLACE",
            () -> {
              Splicemonoid x = mapped(3, 0, 0, 2, 1, 3);
              Due.is("more than the first one has", () -> x.through(0, 2, 3), 6);
              Due.is("text", () -> x.text(3), "[80, 50, 50, 70, 60, 80]");
              x.clear(3);
              Due.is("by none", () -> x.through(0, 3, 1), 0);
              Due.is("text", () -> x.text(1), "[]");
              Due.is("none by none", () -> x.through(3, 3, 3), 0);
              Splicemonoid y = mapped(1, 0, 9);
              Due.is("windows", () -> y.through(4, 5, 3), 2);
              Due.is("text", () -> y.text(3), "[70, 60]");
              Splicemonoid full = Scene.furnished();
              full.reverse(3);
              Due.is("12", () -> full.through(3, 3, 1), 12);
              Due.is("text", () -> full.text(1), FULL_TEXT);
              Watch.isAnother((z, row) -> {
                z.places(3, 2);
                return z.through(1 - row, 3, row);
              });
            })
        .edge("itself, if it is below 0", () -> {
          Splicemonoid x = mapped(-1, 0, -99);
          Due.is("among others", () -> x.through(0, 2, 3), 3);
          Due.is("text", () -> x.text(3), "[-1, 50, -99]");
          Splicemonoid y = mapped(-2, -1);
          Due.is("of none", () -> y.through(3, 2, 1), 2);
          Due.is("text", () -> y.text(1), "[-2, -1]");
        })
        .edge("`where`: the first WHERE (as it is ahead of this)", () -> {
          Splicemonoid x = mapped(3, 2, 1, 0, 3, 3);
          Due.is("the row itself", () -> x.through(0, 2, 0), 6);
          Due.is("text", () -> x.text(0), "[80, 70, 60, 50, 80, 80]");
          Splicemonoid y = mapped(1, 0);
          Due.is("a window of it", () -> y.through(4, 2, 0), 2);
          Due.is("text", () -> y.text(0), "[70, 60]");
          Due.is("that is gone", () -> y.ofWindow(0, 0), -1);
        })
        .edge("`map`: the second one (likewise)", () -> {
          Splicemonoid x = mapped(3, 2, 1, 0, 3, 3);
          Due.is("the row itself", () -> x.through(0, 2, 2), 6);
          Due.is("text", () -> x.text(2), "[80, 70, 60, 50, 80, 80]");
          Splicemonoid y = mapped(1, 0, 2);
          Due.is("a window of it", () -> y.through(4, 5, 2), 2);
          Due.is("text", () -> y.text(2), "[70, 60]");
          Due.is("that is gone", () -> y.ofWindow(1, 0), -1);
          Splicemonoid z = mapped(1, 2, 0);
          Due.is("all three the same", () -> z.through(2, 2, 2), 3);
          Due.is("text", () -> z.text(2), "[2, 0, 1]");
        })
        .edge(
            "REFUSED if an ITEM of the second one is 0 or more, and no PLACE of the first one",
            () -> {
              Scene.leaves("4 of 4", () -> mapped(0, 4, 1), x -> x.through(0, 2, 3), -9);
              Scene.leaves("the last one", () -> mapped(0, 3, 99), x -> x.through(0, 2, 0), -9);
              Scene.leaves("2 of a window", () -> mapped(2), x -> x.through(4, 2, 1), -9);
              Scene.leaves("0 of none", () -> mapped(0), x -> x.through(3, 2, 0), -9);
              Scene.leaves("behind one below 0", () -> mapped(-1, 4), x -> x.through(0, 2, 1), -9);
              Scene.leaves("by a window", () -> mapped(0, 4, 1), x -> x.through(0, 5, 2), -9);
              Due.is("3 of 4", () -> mapped(3).through(0, 2, 3), 1);
              Due.is("1 of a window of 2", () -> mapped(1).through(4, 2, 3), 1);
              Due.is("not in the window", () -> mapped(0, 1, 99).through(0, 5, 3), 2);
            })
        .bounds("there is no such WHERE as where or map, or no such ROW", () -> {
          Scene.noSuchWhere((x, where) -> x.through(where, 2, 0));
          Scene.noSuchWhere((x, map) -> x.through(0, map, 0));
          Scene.noSuchRow((x, row) -> x.through(0, 2, row));
        })
        .all();
  }

  private static final int[] STRANGERS = {12, -1, 100, -100, Scene.LOW, Scene.HIGH};

  private static void promises26And27() {
    Edges.of(26)
        .edge("Returns the first PLACE at which it stands", () -> {
          Splicemonoid x = Due.rows(Due.row(5, 6, 5, 6, 7));
          Due.is("at the beginning", () -> x.indexOf(0, 5), 0);
          Due.is("the first of two", () -> x.indexOf(0, 6), 1);
          Due.is("at the end", () -> x.indexOf(0, 7), 4);
          Due.is("the last of 12", () -> Scene.furnished().indexOf(3, 11), 11);
        })
        .edge(WITHOUT, () -> {
          Scene.each("in 12:", STRANGERS, Scene::furnished, (x, item) -> x.indexOf(3, item), -1);
          Scene.leaves("0 in none", Scene::furnished, x -> x.indexOf(2, 0), -1);
          Splicemonoid x = Scene.furnished();
          x.remove(3, 11);
          Due.is("what went", () -> x.indexOf(3, 11), -1);
        })
        .bounds(NO_ROW, () -> Scene.noSuchRow((x, row) -> x.indexOf(row, 1)))
        .all();
    Edges.of(27)
        .edge("Returns the last PLACE at which it stands", () -> {
          Splicemonoid x = Due.rows(Due.row(7, 5, 6, 5, 6));
          Due.is("at the beginning", () -> x.lastIndexOf(0, 7), 0);
          Due.is("the last of two", () -> x.lastIndexOf(0, 5), 3);
          Due.is("at the end", () -> x.lastIndexOf(0, 6), 4);
          Due.is("the last of 12", () -> Scene.furnished().lastIndexOf(3, 11), 11);
        })
        .edge(WITHOUT, () -> {
          Scene.Numbered last = (x, item) -> x.lastIndexOf(3, item);
          Scene.each("in 12:", STRANGERS, Scene::furnished, last, -1);
          Scene.leaves("0 in none", Scene::furnished, x -> x.lastIndexOf(2, 0), -1);
          Splicemonoid x = Scene.furnished();
          x.remove(3, 11);
          Due.is("what went", () -> x.lastIndexOf(3, 11), -1);
        })
        .bounds(NO_ROW, () -> Scene.noSuchRow((x, row) -> x.lastIndexOf(row, 1)))
        .all();
  }

  private static void promises28And29() {
    Edges.of(28)
        .edge("Returns whether it stands there", () -> {
          Scene.Numbered contains = (x, item) -> x.contains(3, item);
          Scene.each("in 12:", STRANGERS, Scene::furnished, contains, false);
          Scene.each("in 12:", new int[] {0, 11}, Scene::furnished, contains, true);
          Scene.leaves("0 in none", Scene::furnished, x -> x.contains(2, 0), false);
          Splicemonoid x = Scene.furnished();
          x.remove(3, 11);
          Due.is("what went", () -> x.contains(3, 11), false);
        })
        .bounds(NO_ROW, () -> Scene.noSuchRow((x, row) -> x.contains(row, 1)))
        .all();
    Edges.of(29)
        .edge("Returns how often it stands there", () -> {
          Scene.Numbered often = (x, item) -> x.howOften(3, item);
          Scene.each("in 12:", STRANGERS, Scene::furnished, often, 0);
          Scene.each("in 12:", new int[] {0, 11}, Scene::furnished, often, 1);
          Scene.leaves("0 in none", Scene::furnished, x -> x.howOften(2, 0), 0);
          Splicemonoid x = Scene.furnished();
          x.fill(3, 0);
          Due.is("all of 12", () -> x.howOften(3, 0), 12);
          x.remove(3, 0);
          Due.is("what went", () -> x.howOften(3, 0), 11);
        })
        .bounds(NO_ROW, () -> Scene.noSuchRow((x, row) -> x.howOften(row, 1)))
        .all();
  }

  private static void promise30() {
    Edges.of(30)
        .edge("`isMost`: whether the greatest ITEM, otherwise the least one", () -> {
          Splicemonoid x = Due.rows(Due.row(99, 0, -99), Due.row(-99, 5, 99), Due.row(-1));
          Due.is("greatest, at the beginning", () -> x.least(0, true), 99);
          Due.is("least, at the end", () -> x.least(0, false), -99);
          Due.is("greatest, at the end", () -> x.least(1, true), 99);
          Due.is("least, at the beginning", () -> x.least(1, false), -99);
          Due.is("greatest of one", () -> x.least(2, true), -1);
          Due.is("least of one", () -> x.least(2, false), -1);
          x.add(2, -2);
          Due.is("greatest of two", () -> x.least(2, true), -1);
          Due.is("least of two", () -> x.least(2, false), -2);
        })
        .bounds(NO_ROW, () -> {
          Scene.noSuchRow((x, row) -> x.least(row, true));
          Scene.noSuchRow((x, row) -> x.least(row, false));
        })
        .state("it has none", () -> {
          Scene.leaves("greatest", Scene::furnished, x -> x.least(2, true), Due.STATE);
          Scene.leaves("least", Scene::furnished, x -> x.least(2, false), Due.STATE);
          Splicemonoid x = Scene.furnished();
          x.clear(3);
          Due.is("what went", () -> x.least(3, true), Due.STATE);
        })
        .all();
  }

  private static void promises31And32() {
    Edges.of(31)
        .edge("Returns whether no number stands in both", () -> {
          Splicemonoid x = Due.rows(Due.row(1, 2, 3), Due.row(4, 5), Due.row(9, 3));
          Due.is("no number", () -> x.areApart(0, 1), true);
          Due.is("the last ones", () -> x.areApart(0, 2), false);
          Due.is("the other way round", () -> x.areApart(2, 0), false);
          Due.is("itself", () -> x.areApart(1, 1), false);
          Due.is("some and none", () -> x.areApart(0, 3), true);
          Due.is("none and some", () -> x.areApart(3, 0), true);
          Due.is("none and itself", () -> x.areApart(3, 3), true);
          x.remove(2, 1);
          Due.is("what went", () -> x.areApart(2, 0), true);
          x.remove(1, 0);
          x.insert(1, 0, 1);
          Due.is("the first ones", () -> x.areApart(0, 1), false);
          Splicemonoid full = Scene.furnished();
          Due.is("the last but three of 12", () -> full.areApart(3, 1), false);
          full.fill(1, -1);
          Due.is("12 and others", () -> full.areApart(3, 1), true);
          full.set(1, 1, 11);
          Due.is("the last of 12", () -> full.areApart(3, 1), false);
        })
        .bounds(NO_OTHER, () -> {
          Scene.noSuchRow((x, row) -> x.areApart(row, 0));
          Scene.noSuchRow((x, other) -> x.areApart(0, other));
          Scene.noSuchRow((x, other) -> x.areApart(2, other));
          Scene.noSuchRow((x, both) -> x.areApart(both, both));
        })
        .all();
    Edges.of(32)
        .edge("Returns whether they have the same ITEMS at the same PLACES, and as many", () -> {
          Splicemonoid x = Due.rows(Due.row(1, 2, 3), Due.row(1, 2), Due.row(1, 3, 2));
          Due.is("one more", () -> x.areSame(0, 1), false);
          Due.is("one less", () -> x.areSame(1, 0), false);
          Due.is("at other places", () -> x.areSame(0, 2), false);
          Due.is("none and some", () -> x.areSame(3, 1), false);
          Due.is("some and none", () -> x.areSame(1, 3), false);
          Due.is("none and itself", () -> x.areSame(3, 3), true);
          x.swap(2, 1, 2);
          Due.is("the same", () -> x.areSame(0, 2), true);
          x.set(2, 2, 4);
          Due.is("the last one is another", () -> x.areSame(0, 2), false);
          x.clear(0);
          Due.is("none and none", () -> x.areSame(0, 3), true);
        })
        .bounds(NO_OTHER, () -> {
          Scene.noSuchRow((x, row) -> x.areSame(row, 0));
          Scene.noSuchRow((x, other) -> x.areSame(0, other));
          Scene.noSuchRow((x, other) -> x.areSame(2, other));
          Scene.noSuchRow((x, both) -> x.areSame(both, both));
        })
        .all();
  }

  private static void promises33And34() {
    Edges.of(33)
        .edge(
            "ITEM by ITEM it becomes 31 * h + the ITEM, which wraps around as a 32-bit integer",
            () -> {
              Splicemonoid x = Due.rows(
                  Due.row(99, 99, 99, 99, 99, 99, 99, 99, 99, 99, 99, 99),
                  Due.row(99, 99, 99, 99, 99, 99),
                  Due.row(-31));
              for (int i = 0; i < 4; i++) {
                int row = i;
                long h = 1;
                for (int place = 0; place < x.size(row); place++) {
                  h = Math.floorMod(31 * h + x.get(row, place), 1L << 32);
                }
                long want = h >= 1L << 31 ? h - (1L << 32) : h;
                Due.is("row " + row, () -> x.hash(row), want);
              }
              Due.is("6 times 99", () -> x.hash(1), -478701471);
              Due.is("12 times 99", () -> x.hash(0), -1691129663);
              Due.is("of none", () -> x.hash(3), 1);
              Due.is("down to 0", () -> x.hash(2), 0);
            })
        .bounds(NO_ROW, () -> Scene.noSuchRow((x, row) -> x.hash(row)))
        .all();
    Edges.of(34)
        .edge("Returns its ITEMS with \", \" between, and \"[\" and \"]\" around", () -> {
          Splicemonoid x = Due.rows(Due.row(-99), Due.row(0, -1));
          x.fill(3, 1);
          Due.is("of one", () -> x.text(0), "[-99]");
          Due.is("of two", () -> x.text(1), "[0, -1]");
          Due.is("of none", () -> x.text(2), "[]");
          Due.is("of 12", () -> Scene.furnished().text(3), FULL_TEXT);
        })
        .bounds(NO_ROW, () -> Scene.noSuchRow((x, row) -> x.text(row)))
        .all();
  }

  private static void promise35() {
    Edges.of(35)
        .bounds("there is no such ROW, or PLACE of it", () -> {
          Scene.noSuchRow((x, row) -> x.inArray(row, 0));
          for (int row = 0; row < 4; row++) {
            int at = row;
            Scene.noSuchPlace(row, (x, place) -> x.inArray(at, place));
          }
          Splicemonoid x = Scene.furnished();
          Due.is("the first of 12", () -> x.inArray(3, 0), 0);
          Due.is("the last of 12", () -> x.inArray(3, 11), 11);
          x.remove(3, 0);
          Due.is("what went", () -> x.inArray(3, 11), Due.BOUNDS);
        })
        .all();
  }
}
