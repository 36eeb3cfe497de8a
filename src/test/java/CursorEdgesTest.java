/** The boundary cases of promises 39 to 46: cursors. */
public final class CursorEdgesTest {
  private static final String NO_CURSOR = "cursor is not 0 to 2";
  private static final String NOT_THERE = "it is not there";
  private static final String NO_ITEM = "item is not -99 to 99";
  private static final String WITHOUT = "REFUSED without LAST";

  public static void main(String[] args) {
    promise39();
    promise40();
    promise41();
    promise42();
    promise43();
    promise44();
    promise45();
    promise46();
    Edges.end("CursorEdgesTest", 39, 46);
  }

  private static String all(Splicemonoid x, int cursor) {
    StringBuilder seen = new StringBuilder();
    for (int what = 0; what < 5; what++) {
      seen.append(x.ofCursor(cursor, what)).append(' ');
    }
    return seen.toString();
  }

  /** A cursor that is shut, one that never was there, and one that went by a change. */
  private static void notThere(Scene.Numbered act) {
    Scene.leaves("it is shut", Scene::furnished, x -> act.told(x, 2), Due.STATE);
    for (int i = 0; i < 3; i++) {
      int cursor = i;
      Scene.leaves("it never was", Splicemonoid::new, x -> act.told(x, cursor), Due.STATE);
    }
    Scene.Maker changed = () -> {
      Splicemonoid x = Scene.furnished();
      x.add(0, 1);
      return x;
    };
    Scene.leaves("it went by a change", changed, x -> act.told(x, 0), Due.STATE);
    Scene.Maker closed = () -> {
      Splicemonoid x = Scene.furnished();
      x.close(0);
      return x;
    };
    Scene.leaves("it went with its window", closed, x -> act.told(x, 0), Due.STATE);
  }

  private static void promise39() {
    int[] belows = {Scene.LOW, -1};
    Edges.of(39)
        .edge("A CURSOR begins (one that was there is GONE)", () -> {
          Splicemonoid x = Scene.furnished();
          Due.is("at the beginning", () -> x.open(0, 3, 0), 12);
          Due.is("it is another one", () -> all(x, 0), "3 0 -1 1 0 ");
          Due.is("at the end", () -> x.open(0, 3, 12), 0);
          Due.is("it is another one", () -> all(x, 0), "3 12 11 0 1 ");
          Due.is("where it was", () -> x.open(1, 3, 11), 1);
          Due.is("without LAST", () -> x.take(1), -9);
          Due.is("over none", () -> x.open(2, 2, 0), 0);
          Due.is("it is there", () -> all(x, 2), "2 0 -1 0 0 ");
          Due.is("over a window, at its end", () -> x.open(2, 5, 2), 0);
          Due.is("three are there", () -> x.house(2), 3);
          Due.is("over an empty window", () -> Scene.withEmptyWindow().open(2, 6, 0), 0);
        })
        .bounds(
            "cursor is not 0 to 2, there is no such WHERE, or place is below 0, or above how many"
                + " ITEMS there are",
            () -> {
              Scene.noSuchIndex(2, (x, cursor) -> x.open(cursor, 0, 0));
              for (int i = 0; i < 3; i++) {
                int cursor = i;
                Scene.noSuchWhere((x, where) -> x.open(cursor, where, 0));
              }
              for (int i = 0; i < 8; i++) {
                int where = i;
                int many = Scene.withEmptyWindow().size(where);
                int[] aboves = {many + 1, Scene.HIGH};
                Scene.Maker maker = Scene::withEmptyWindow;
                Scene.Numbered open = (x, place) -> x.open(0, where, place);
                Scene.each("below, in " + where, belows, maker, open, Due.BOUNDS);
                Scene.each("above, in " + where, aboves, maker, open, Due.BOUNDS);
                Due.is("0", () -> maker.made().open(0, where, 0), many);
                Due.is("how many there are", () -> maker.made().open(0, where, many), 0);
              }
            })
        .all();
  }

  private static void promise40() {
    Edges.of(40)
        .edge("A CURSOR is GONE", () -> {
          Splicemonoid x = Scene.furnished();
          x.shut(0);
          Due.is("it is not there", () -> all(x, 0), "-1 -1 -1 -1 -1 ");
          Due.is("the other one stands", () -> all(x, 1), "3 11 10 1 1 ");
          Due.is("windows stand", () -> x.house(1), 3);
          Due.is("next", () -> x.next(0), Due.STATE);
        })
        .edge("Returns 1 if it was there, otherwise 0", () -> {
          Due.is("it was there", () -> Scene.furnished().shut(1), 1);
          Scene.leaves("it was shut", Scene::furnished, x -> x.shut(2), 0);
          for (int i = 0; i < 3; i++) {
            int cursor = i;
            Scene.leaves("it never was", Splicemonoid::new, x -> x.shut(cursor), 0);
          }
          Splicemonoid x = Scene.furnished();
          Due.is("12", () -> x.add(3, 1), Due.STATE);
          Due.is("what throws takes none away", () -> x.shut(1), 1);
          x.add(4, 1);
          Due.is("it went by a change", () -> x.shut(0), 0);
        })
        .bounds(NO_CURSOR, () -> Scene.noSuchIndex(2, (x, cursor) -> x.shut(cursor)))
        .all();
  }

  /** A cursor at a place of it, without LAST. */
  private static Scene.Maker standingAt(int where, int place) {
    return () -> {
      Splicemonoid x = Scene.withEmptyWindow();
      x.open(0, where, place);
      return x;
    };
  }

  /** It was led to the last place (or the first one), so that it has LAST. */
  private static Scene.Maker ledTo(int where, boolean isForth) {
    return () -> {
      Splicemonoid x = Scene.withEmptyWindow();
      x.open(0, where, isForth ? 0 : x.size(where));
      for (int step = 0; step < x.size(where); step++) {
        int ignored = isForth ? x.next(0) : x.previous(0);
      }
      return x;
    };
  }

  private static void promise41() {
    Edges.of(41)
        .edge("100 if there is none behind it (it stays where it stands then)", () -> {
          for (int i = 0; i < 8; i++) {
            int where = i;
            int many = Scene.withEmptyWindow().size(where);
            Scene.leaves("it stood at the end", standingAt(where, many), x -> x.next(0), 100);
            Scene.leaves("it went to the end", ledTo(where, true), x -> x.next(0), 100);
            Splicemonoid x = standingAt(where, 0).made();
            for (int place = 0; place < many; place++) {
              int at = place;
              Due.is("item " + at + " of " + where, () -> x.next(0), x.get(where, at));
              Due.is("its index", () -> x.ofCursor(0, 1), at + 1);
            }
            Due.is("then no more", () -> x.next(0), 100);
            Due.is("nor again", () -> x.next(0), 100);
          }
        })
        .bounds(NO_CURSOR, () -> Scene.noSuchIndex(2, (x, cursor) -> x.next(cursor)))
        .state(NOT_THERE, () -> notThere((x, cursor) -> x.next(cursor)))
        .all();
  }

  private static void promise42() {
    Edges.of(42)
        .edge("100 if there is none ahead of it (it stays where it stands then)", () -> {
          for (int i = 0; i < 8; i++) {
            int where = i;
            int many = Scene.withEmptyWindow().size(where);
            Scene.leaves("it stood at 0", standingAt(where, 0), x -> x.previous(0), 100);
            Scene.leaves("it went to 0", ledTo(where, false), x -> x.previous(0), 100);
            Splicemonoid x = standingAt(where, many).made();
            for (int place = many - 1; place >= 0; place--) {
              int at = place;
              Due.is("item " + at + " of " + where, () -> x.previous(0), x.get(where, at));
              Due.is("its index", () -> x.ofCursor(0, 1), at);
            }
            Due.is("then no more", () -> x.previous(0), 100);
            Due.is("nor again", () -> x.previous(0), 100);
          }
        })
        .bounds(NO_CURSOR, () -> Scene.noSuchIndex(2, (x, cursor) -> x.previous(cursor)))
        .state(NOT_THERE, () -> notThere((x, cursor) -> x.previous(cursor)))
        .all();
  }

  private static void promise43() {
    Edges.of(43)
        .edge("A CURSOR puts an ITEM in (a CHANGE)", () -> {
          Splicemonoid x = Scene.withEmptyWindow();
          x.open(0, 2, 0);
          Due.is("into none", () -> x.put(0, -99), 1);
          Due.is("behind the last one", () -> x.put(0, 99), 2);
          Due.is("text", () -> x.text(2), "[-99, 99]");
          x.previous(0);
          x.previous(0);
          Due.is("ahead of the first one", () -> x.put(0, 0), 1);
          Due.is("text", () -> x.text(2), "[0, -99, 99]");
          x.open(1, 6, 0);
          Due.is("into an empty window", () -> x.put(1, 5), 1);
          Due.is("text", () -> x.text(0), "[10, 11, 12, 5, 13, 14, 15]");
          Due.is("a window beside it is gone", () -> x.open(2, 4, 4), Due.BOUNDS);
          Splicemonoid y = Scene.furnished();
          y.open(2, 4, 4);
          Due.is("at the end of a window", () -> y.put(2, 5), 5);
          Due.is("text", () -> y.text(0), "[10, 11, 12, 13, 14, 5, 15]");
          Watch.isChangeByCursor(z -> z.put(1, 5));
        })
        .bounds(NO_CURSOR, () -> Scene.noSuchIndex(2, (x, cursor) -> x.put(cursor, 1)))
        .argument(NO_ITEM, () -> Scene.noSuchItem((x, item) -> x.put(0, item)))
        .state("it is not there, or its ROW has 12 ITEMS", () -> {
          notThere((x, cursor) -> x.put(cursor, 1));
          Scene.leaves("12", Scene::furnished, x -> x.put(1, 1), Due.STATE);
          Scene.leaves("12, at the beginning", standingAt(3, 0), x -> x.put(0, 1), Due.STATE);
          Scene.leaves("12, at the end", standingAt(3, 12), x -> x.put(0, 1), Due.STATE);
          Scene.leaves("12, by a window", ledTo(7, true), x -> x.put(0, 1), Due.STATE);
          Splicemonoid x = Scene.furnished();
          Due.is("11 then", () -> x.take(1), 11);
          Due.is("12 again", () -> x.put(1, 50), 12);
          Due.is("not more", () -> x.put(1, 51), Due.STATE);
          Due.is("text", () -> x.text(3), "[0, 1, 2, 3, 4, 5, 6, 7, 8, 9, 10, 50]");
        })
        .all();
  }

  private static void promise44() {
    Edges.of(44)
        .edge("A CURSOR takes LAST away (a CHANGE)", () -> {
          Splicemonoid x = Scene.furnished();
          Due.is("the last one, behind it", () -> x.take(1), 11);
          Due.is("text", () -> x.text(3), "[0, 1, 2, 3, 4, 5, 6, 7, 8, 9, 10]");
          x.open(1, 3, 1);
          x.previous(1);
          Due.is("the first one, behind it", () -> x.take(1), 0);
          Due.is("text", () -> x.text(3), "[1, 2, 3, 4, 5, 6, 7, 8, 9, 10]");
          x.next(1);
          Due.is("the first one, ahead of it", () -> x.take(1), 0);
          Due.is("the first one of a window", () -> x.take(0), 0);
          Due.is("text", () -> x.text(0), "[10, 11, 13, 14, 15]");
          x.next(0);
          Due.is("its only one", () -> x.take(0), 0);
          Due.is("text", () -> x.text(0), "[10, 11, 14, 15]");
          Due.is("no more", () -> x.next(0), 100);
          Watch.isChangeByCursor(y -> y.take(1));
        })
        .edge(WITHOUT, () -> withoutLast((x, cursor) -> x.take(cursor)))
        .bounds(NO_CURSOR, () -> Scene.noSuchIndex(2, (x, cursor) -> x.take(cursor)))
        .state(NOT_THERE, () -> notThere((x, cursor) -> x.take(cursor)))
        .all();
  }

  private static void withoutLast(Scene.Numbered act) {
    Scene.leaves("it told none", standingAt(0, 3), x -> act.told(x, 0), -9);
    Scene.leaves("it goes over none", standingAt(2, 0), x -> act.told(x, 0), -9);
    Scene.Maker toldNone = () -> {
      Splicemonoid x = standingAt(0, 6).made();
      x.next(0);
      return x;
    };
    Scene.leaves("there was none to tell", toldNone, x -> act.told(x, 0), -9);
    Scene.Maker put = () -> {
      Splicemonoid x = Scene.furnished();
      x.put(0, 5);
      return x;
    };
    Scene.leaves("it put one in", put, x -> act.told(x, 0), -9);
    Scene.Maker took = () -> {
      Splicemonoid x = Scene.furnished();
      x.take(1);
      return x;
    };
    Scene.leaves("it took one away", took, x -> act.told(x, 1), -9);
    Scene.Maker anew = () -> {
      Splicemonoid x = Scene.furnished();
      x.open(0, 5, 1);
      return x;
    };
    Scene.leaves("it began anew", anew, x -> act.told(x, 0), -9);
  }

  private static void promise45() {
    Edges.of(45)
        .edge("A CURSOR puts an ITEM in the place of LAST", () -> {
          Splicemonoid x = Scene.furnished();
          Due.is("ahead of it", () -> x.replace(0, -99), 1);
          Due.is("text", () -> x.text(0), "[10, 11, -99, 13, 14, 15]");
          Due.is("the last of 12, behind it", () -> x.replace(1, 99), 11);
          Due.is("text", () -> x.text(3), "[0, 1, 2, 3, 4, 5, 6, 7, 8, 9, 10, 99]");
          Due.is("it tells that", () -> x.next(1), 99);
          Watch.isNoChange((y, where) -> y.replace(1, 5));
        })
        .edge(WITHOUT, () -> withoutLast((x, cursor) -> x.replace(cursor, 5)))
        .bounds(NO_CURSOR, () -> Scene.noSuchIndex(2, (x, cursor) -> x.replace(cursor, 1)))
        .argument(NO_ITEM, () -> {
          Scene.noSuchItem((x, item) -> x.replace(0, item));
          Scene.noSuchItem((x, item) -> x.replace(1, item));
        })
        .state(NOT_THERE, () -> notThere((x, cursor) -> x.replace(cursor, 1)))
        .all();
  }

  private static void promise46() {
    Edges.of(46)
        .edge(
            "`what`: 0 the WHERE over which it goes, 1 its INDEX, 2 its INDEX less 1, 3 1 if an"
                + " ITEM is behind it, otherwise 0, 4 1 if one is ahead of it, otherwise 0",
            () -> {
              Due.is("over none", () -> all(standingAt(2, 0).made(), 0), "2 0 -1 0 0 ");
              Due.is("over an empty window", () -> all(standingAt(6, 0).made(), 0), "6 0 -1 0 0 ");
              Due.is("at the beginning", () -> all(standingAt(3, 0).made(), 0), "3 0 -1 1 0 ");
              Due.is("behind the first one", () -> all(standingAt(3, 1).made(), 0), "3 1 0 1 1 ");
              Due.is("ahead of the last", () -> all(standingAt(3, 11).made(), 0), "3 11 10 1 1 ");
              Due.is("at the end", () -> all(standingAt(3, 12).made(), 0), "3 12 11 0 1 ");
              Due.is("at a window's end", () -> all(standingAt(5, 2).made(), 0), "5 2 1 0 1 ");
              Due.is("at its beginning", () -> all(standingAt(5, 0).made(), 0), "5 0 -1 1 0 ");
              Splicemonoid x = standingAt(1, 2).made();
              x.previous(0);
              x.next(0);
              x.take(0);
              Due.is("the last one went", () -> all(x, 0), "1 1 0 0 1 ");
              x.previous(0);
              x.take(0);
              Due.is("all went", () -> all(x, 0), "1 0 -1 0 0 ");
            })
        .edge("NONE if it is not there", () -> {
          for (int i = 0; i < 5; i++) {
            int what = i;
            Scene.leaves("it is shut", Scene::furnished, x -> x.ofCursor(2, what), -1);
            Scene.leaves("it never was", Splicemonoid::new, x -> x.ofCursor(0, what), -1);
            Splicemonoid x = Scene.furnished();
            x.clear(4);
            Due.is("it went by a change", () -> x.ofCursor(0, what), -1);
          }
        })
        .bounds(NO_CURSOR, () -> {
          for (int i = 0; i < 5; i++) {
            int what = i;
            Scene.noSuchIndex(2, (x, cursor) -> x.ofCursor(cursor, what));
          }
        })
        .argument("what is not 0 to 4", () -> {
          Scene.noSuchNumber(0, 4, (x, what) -> x.ofCursor(0, what));
          Scene.noSuchNumber(0, 4, (x, what) -> x.ofCursor(2, what));
        })
        .all();
  }
}
