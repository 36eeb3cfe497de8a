/** The boundary cases that the description names for all promises at once. */
public final class DescriptionEdgesTest {
  private static final Scene.Maker FURNISHED = Scene::furnished;

  public static void main(String[] args) {
    Edges edges = Edges.ofDescription();
    refusals(edges);
    rows(edges);
    windows(edges);
    cursors(edges);
    last(edges);
    changes(edges);
    edges.all();
    Edges.end("DescriptionEdgesTest", 0, 0);
  }

  // ---- what is refused, and what throws

  private static void refusals(Edges edges) {
    edges.edge("NONE is -1", () -> {
      Due.is("no part", () -> Scene.furnished().partAt(2, 0), -1);
      Due.is("no item", () -> Scene.furnished().indexOf(2, 0), -1);
      Due.is("no item", () -> Scene.furnished().lastIndexOf(2, 0), -1);
      Due.is("no window", () -> Scene.furnished().ofWindow(2, 0), -1);
      Due.is("no cursor", () -> Scene.furnished().ofCursor(2, 0), -1);
    });
    edges.edge("REFUSED is -9: it is told where a method names it", () -> {
      for (Scene.Ask refused : REFUSED) {
        Due.is("refused", () -> refused.told(withoutLast()), -9);
      }
    });
    edges.edge("nothing changes then", () -> {
      for (Scene.Ask refused : REFUSED) {
        Scene.leaves("refused", DescriptionEdgesTest::withoutLast, refused, -9);
      }
    });
    edges.edge("A method that throws an exception changes nothing", () -> {
      for (Scene.Ask throwing : THROWING) {
        String told = Due.told(() -> throwing.told(Scene.furnished()));
        Due.is("it throws: " + told, () -> told.startsWith("throws."), true);
        Scene.leaves("it throws", FURNISHED, throwing, told);
      }
    });
    edges.edge(
        "If several exceptions apply, the one that is named first is thrown",
        DescriptionEdgesTest::theFirstIsThrown);
    edges.edge("exceptions go ahead of REFUSED", DescriptionEdgesTest::exceptionsGoFirst);
  }

  /** Furnished, and cursor 2 is there, but has told none. */
  private static Splicemonoid withoutLast() {
    Splicemonoid x = Scene.furnished();
    x.open(2, 1, 0);
    return x;
  }

  /** Each way in which a call can be refused. */
  private static final Scene.Ask[] REFUSED = {
    x -> x.insert(0, 7, 1),
    x -> x.splice(0, 3, 2, 1),
    x -> x.addAll(0, 7, 1),
    x -> x.through(1, 3, 0),
    x -> x.window(0, 0, 0, 7),
    x -> x.close(2),
    x -> x.take(2),
    x -> x.replace(2, 1),
  };

  private static final Scene.Ask[] THROWING = {
    x -> x.add(0, 100), x -> x.add(3, 1), x -> x.insert(0, 0, 100), x -> x.insert(7, 0, 1),
    x -> x.set(0, 6, 1), x -> x.set(0, 0, 100), x -> x.remove(4, 4), x -> x.clear(6),
    x -> x.splice(3, 0, 1, 1), x -> x.splice(0, 0, 6, 6), x -> x.rotate(0, 100),
    x -> x.reverse(6), x -> x.swap(0, 0, 6), x -> x.swap(0, 6, 0), x -> x.riffle(6),
    x -> x.unriffle(6), x -> x.sort(6), x -> x.sortBy(0, 3), x -> x.get(0, 6), x -> x.size(6),
    x -> x.partAt(0, 6), x -> x.fill(0, 100), x -> x.removeItem(4, 11), x -> x.addAll(3, 0, 1),
    x -> x.removeAll(0, 4), x -> x.retainAll(0, 4), x -> x.copy(6, 0), x -> x.copy(0, 4),
    x -> x.places(0, 13), x -> x.through(0, 6, 0), x -> x.indexOf(4, 1),
    x -> x.lastIndexOf(4, 1), x -> x.contains(4, 1), x -> x.howOften(4, 1),
    x -> x.least(2, true), x -> x.areApart(0, 4), x -> x.areSame(0, 4), x -> x.hash(4),
    x -> x.text(4), x -> x.inArray(0, 6), x -> x.window(0, 4, 0, 1), x -> x.window(0, 5, 0, 1),
    x -> x.window(0, 6, 0, 0), x -> x.close(4), x -> x.ofWindow(0, 3), x -> x.open(0, 5, 3),
    x -> x.open(0, 6, 0), x -> x.shut(3), x -> x.next(2), x -> x.previous(2),
    x -> x.put(0, 100), x -> x.put(1, 1), x -> x.put(2, 1), x -> x.take(2),
    x -> x.replace(0, 100), x -> x.replace(2, 1), x -> x.ofCursor(0, 5), x -> x.house(4),
  };

  private static void are(String want, Scene.Ask... asks) {
    for (int i = 0; i < asks.length; i++) {
      Scene.leaves("number " + i, FURNISHED, asks[i], want);
    }
  }

  private static void theFirstIsThrown() {
    are(
        Due.BOUNDS,
        x -> x.add(6, 100), x -> x.insert(8, 0, 100), x -> x.set(6, 0, 100),
        x -> x.set(0, 6, 100), x -> x.set(2, 0, 100), x -> x.rotate(6, 100),
        x -> x.sortBy(6, 3), x -> x.fill(4, 100), x -> x.places(4, 13), x -> x.places(-1, -1),
        x -> x.ofWindow(4, 3), x -> x.put(3, 100), x -> x.replace(-1, 100),
        x -> x.ofCursor(3, 5), x -> x.window(4, 8, 0, 0), x -> x.window(2, 6, 0, 0));
    are(
        Due.ARGUMENT,
        x -> x.add(3, 100), x -> x.add(7, -100), x -> x.insert(3, 0, 100),
        x -> x.insert(7, 0, -100), x -> x.put(1, 100), x -> x.put(2, 100),
        x -> x.replace(2, -100));
  }

  private static void exceptionsGoFirst() {
    are(
        Due.BOUNDS,
        x -> x.insert(6, 9, 1), x -> x.splice(6, 2, 1, 0), x -> x.splice(0, 2, 1, 6),
        x -> x.splice(0, 0, 7, 8), x -> x.addAll(4, 9, 1), x -> x.addAll(0, 9, 4),
        x -> x.through(1, 3, 4), x -> x.through(6, 3, 0), x -> x.through(1, 6, 0),
        x -> x.window(4, 0, 2, 1), x -> x.window(0, 6, 2, 1), x -> x.window(0, 8, 0, 99),
        x -> x.close(4), x -> x.take(3), x -> x.replace(3, 1));
    are(
        Due.ARGUMENT,
        x -> x.insert(0, 9, 100), x -> x.insert(3, 13, 100), x -> x.insert(0, -1, -100));
    are(
        Due.STATE,
        x -> x.insert(3, 13, 1), x -> x.insert(3, -1, 1), x -> x.insert(7, 4, 1),
        x -> x.addAll(3, 13, 1), x -> x.addAll(3, -1, 1), x -> x.window(0, 4, 2, 1),
        x -> x.window(0, 5, 0, 9), x -> x.window(3, 7, -1, 0), x -> x.take(2),
        x -> x.replace(2, 1));
    // The one exception that waits for a refusal says so itself.
    are("-9", x -> x.splice(3, 2, 1, 3), x -> x.splice(7, 4, 4, 3));
    Scene.Maker toldNone = DescriptionEdgesTest::withoutLast;
    Scene.leaves("without LAST", toldNone, x -> x.replace(2, 100), Due.ARGUMENT);
    // NONE and 100 are no REFUSED, but an exception goes ahead of them as well.
    are(Due.ARGUMENT, x -> x.ofWindow(2, 3), x -> x.ofCursor(2, 5), x -> x.rotate(2, 100));
    are(Due.ARGUMENT, x -> x.sortBy(2, 3), x -> x.fill(2, 100));
  }

  // ---- rows and windows

  private static void rows(Edges edges) {
    edges.edge("ROWS 0 to 3, each of at most 12 ITEMS (none at first)", () -> {
      Splicemonoid x = new Splicemonoid();
      for (int row = 0; row < 4; row++) {
        int at = row;
        Due.is("none at first", () -> x.size(at), 0);
        for (int i = 1; i <= 12; i++) {
          int many = i;
          Due.is("add", () -> x.add(at, many), many);
        }
        Due.is("a thirteenth", () -> x.add(at, 13), Due.STATE);
        Due.is("a thirteenth ahead", () -> x.insert(at, 0, 13), Due.STATE);
        Due.is("a thirteenth by a splice", () -> x.splice(at, 0, 0, 0), Due.STATE);
        Due.is("12 more of a row", () -> x.addAll(at, 0, 0), Due.STATE);
        Due.is("it has 12", () -> x.size(at), 12);
      }
      Due.is("all have", () -> x.house(0), 48);
      Due.is("row 4", () -> x.places(4, 0), Due.BOUNDS);
      Due.is("row -1", () -> x.places(-1, 0), Due.BOUNDS);
    });
    edges.edge("an ITEM is a number from -99 to 99", () -> {
      Scene.noSuchItem((x, item) -> x.add(0, item));
      Scene.noSuchItem((x, item) -> x.insert(0, 0, item));
      Scene.noSuchItem((x, item) -> x.set(0, 0, item));
      Scene.noSuchItem((x, item) -> x.fill(0, item));
      Scene.noSuchItem((x, item) -> x.put(0, item));
      Scene.noSuchItem((x, item) -> x.replace(0, item));
    });
  }

  private static void windows(Edges edges) {
    edges.edge(
        "WINDOWS 0 to 3 (none is there at first): each is seen through at a ROW or at another"
            + " WINDOW (its GROUND), from a PLACE of that up to another one, which is not in it",
        () -> {
          Splicemonoid x = Due.rows(Due.row(1, 2, 3, 4));
          for (int i = 0; i < 4; i++) {
            int window = i;
            Due.is("none at first", () -> x.ofWindow(window, 2), -1);
          }
          Due.is("up to another one", () -> x.window(0, 0, 1, 3), 2);
          Due.is("the first in it", () -> x.get(4, 0), 2);
          Due.is("the last in it", () -> x.get(4, 1), 3);
          Due.is("that one is not", () -> x.get(4, 2), Due.BOUNDS);
          Due.is("at another one", () -> x.window(3, 4, 1, 2), 1);
          Due.is("the first in it", () -> x.get(7, 0), 3);
          Due.is("its ground has no more", () -> x.get(7, 1), Due.BOUNDS);
          Due.is("up to the same one", () -> x.window(2, 0, 2, 2), 0);
          Due.is("that has none", () -> x.get(6, 0), Due.BOUNDS);
          Due.is("4", () -> x.window(4, 0, 0, 1), Due.BOUNDS);
          Due.is("-1", () -> x.window(-1, 0, 0, 1), Due.BOUNDS);
        });
    edges.edge("Its ROW is its GROUND, or the ROW of that", () -> {
      Splicemonoid x = Due.rows(Due.row(), Due.row(), Due.row(), Due.row(1));
      x.window(3, 3, 0, 1);
      x.window(2, 7, 0, 1);
      x.window(0, 6, 0, 1);
      x.window(1, 4, 0, 1);
      for (int i = 0; i < 4; i++) {
        int window = i;
        Due.is("its row", () -> x.ofWindow(window, 1), 3);
      }
      Due.is("the ground of the fourth one", () -> x.ofWindow(1, 0), 4);
      Due.is("what is done in that one", () -> x.add(5, 2), 2);
      Due.is("is done in the row", () -> x.text(3), "[1, 2]");
      Due.is("and in all between", () -> x.size(4) + x.size(6) + x.size(7), 6);
    });
    edges.edge("WHERE: 0 to 3 a ROW, 4 to 7 the WINDOWS 0 to 3", () -> {
      Splicemonoid x = new Splicemonoid();
      for (int row = 0; row < 4; row++) {
        x.fill(row, x.add(row, row + 1));
        x.set(row, 0, row + 1);
      }
      for (int window = 0; window < 4; window++) {
        x.window(window, 3 - window, 0, 1);
      }
      int[] items = {1, 2, 3, 4, 4, 3, 2, 1};
      for (int i = 0; i < 8; i++) {
        int where = i;
        Due.is("its item", () -> x.get(where, 0), items[where]);
      }
      Due.is("8", () -> x.get(8, 0), Due.BOUNDS);
      Due.is("-1", () -> x.get(-1, 0), Due.BOUNDS);
    });
    edges.edge("\"There is a WHERE\" is so of each ROW, and of a WINDOW that is there", () -> {
      Scene.noSuchWhere((x, where) -> x.size(where));
      Splicemonoid x = Scene.furnished();
      Due.is("a row without items", () -> x.size(2), 0);
      Due.is("a window", () -> x.size(5), 2);
      x.close(0);
      Due.is("it went with its ground", () -> x.size(5), Due.BOUNDS);
      x.window(1, 0, 0, 0);
      Due.is("it is there again", () -> x.size(5), 0);
      x.sort(0);
      Due.is("it went by a change", () -> x.size(5), Due.BOUNDS);
    });
    edges.edge(
        "HOLDERS of a WHERE w are w itself, and, if it is a WINDOW, the HOLDERS of its GROUND",
        () -> {
          Splicemonoid x = Due.rows(Due.row(1, 2, 3));
          x.window(3, 0, 0, 3);
          x.window(1, 7, 0, 3);
          x.window(2, 5, 0, 3);
          x.window(0, 6, 0, 3);
          Due.is("a change in the last of four", () -> x.add(4, 4), 4);
          Due.is("all are its holders", () -> x.house(1), 4);
          Due.is("each has it", () -> x.size(5) + x.size(6) + x.size(7), 12);
          Due.is("a change in the third", () -> x.add(6, 5), 5);
          Due.is("the last is not", () -> x.ofWindow(0, 0), -1);
          Due.is("the others are", () -> x.size(5) + x.size(6) + x.size(7), 15);
          Due.is("itself in its ground", () -> x.window(3, 6, 0, 1), Due.STATE);
          Due.is("the last in it", () -> x.window(0, 6, 0, 1), 1);
        });
  }

  // ---- cursors

  private static void cursors(Edges edges) {
    edges.edge(
        "CURSORS 0 to 2 (none is there at first): each goes over a WHERE, and stands between two"
            + " ITEMS, ahead of the first one, or behind the last one",
        () -> {
          Splicemonoid x = Due.rows(Due.row(1, 2));
          for (int i = 0; i < 3; i++) {
            int cursor = i;
            Due.is("none at first", () -> x.ofCursor(cursor, 1), -1);
            Due.is("it begins", () -> x.open(cursor, 0, cursor), 2 - cursor);
            Due.is("its index", () -> x.ofCursor(cursor, 1), cursor);
          }
          Due.is("behind that", () -> x.open(0, 0, 3), Due.BOUNDS);
          Due.is("ahead of that", () -> x.open(0, 0, -1), Due.BOUNDS);
          Due.is("3", () -> x.open(3, 0, 0), Due.BOUNDS);
          Due.is("-1", () -> x.open(-1, 0, 0), Due.BOUNDS);
        });
    edges.edge("To go forth: it tells the ITEM behind it, and stands behind that", () -> {
      Splicemonoid x = Due.rows(Due.row(1, 2));
      x.open(0, 0, 1);
      Due.is("the last one", () -> x.next(0), 2);
      Due.is("it stands at the end", () -> x.ofCursor(0, 1), 2);
      Due.is("what is ahead of it then", () -> x.previous(0), 2);
    });
    edges.edge("to go back: it tells the one ahead of it, and stands ahead of that", () -> {
      Splicemonoid x = Due.rows(Due.row(1, 2));
      x.open(0, 0, 1);
      Due.is("the first one", () -> x.previous(0), 1);
      Due.is("it stands at the beginning", () -> x.ofCursor(0, 1), 0);
      Due.is("what is behind it then", () -> x.next(0), 1);
    });
    edges.edge("A CURSOR puts an ITEM in where it stands, and stands behind it then", () -> {
      for (int i = 0; i <= 2; i++) {
        int place = i;
        Splicemonoid x = Due.rows(Due.row(1, 2));
        x.open(0, 0, place);
        Due.is("its index", () -> x.put(0, 9), place + 1);
        Due.is("the item", () -> x.get(0, place), 9);
        Due.is("it is ahead of it", () -> x.previous(0), 9);
      }
    });
    edges.edge("takes LAST away (its INDEX is 1 less then, if LAST was ahead of it)", () -> {
      for (int i = 0; i < 2; i++) {
        int place = i;
        Splicemonoid x = Due.rows(Due.row(1, 2));
        x.open(0, 0, place);
        x.next(0);
        Due.is("it was ahead", () -> x.take(0), place);
        Due.is("text", () -> x.text(0), place == 0 ? "[2]" : "[1]");
        Splicemonoid y = Due.rows(Due.row(1, 2));
        y.open(0, 0, place + 1);
        y.previous(0);
        Due.is("it was behind", () -> y.take(0), place);
        Due.is("text", () -> y.text(0), place == 0 ? "[2]" : "[1]");
      }
    });
    edges.edge("or puts another one in the place of LAST", () -> {
      Splicemonoid x = Due.rows(Due.row(1, 2));
      x.open(0, 0, 0);
      x.next(0);
      Due.is("ahead of it", () -> x.replace(0, 8), 1);
      x.next(0);
      x.previous(0);
      Due.is("behind it", () -> x.replace(0, 9), 1);
      Due.is("text", () -> x.text(0), "[8, 9]");
    });
  }

  private static Splicemonoid told(int times) {
    Splicemonoid x = Due.rows(Due.row(1, 2, 3));
    x.open(0, 0, 0);
    for (int i = 0; i < times; i++) {
      x.next(0);
    }
    return x;
  }

  private static void last(Edges edges) {
    edges.edge(
        "LAST of a CURSOR: the ITEM that it told last (none at first, and as soon as it put"
            + " something in or took something away",
        () -> {
          Due.is("none at first", () -> told(0).take(0), -9);
          Due.is("the one told last", () -> told(2).take(0), 1);
          Splicemonoid x = told(4);
          Due.is("though there was no more behind", () -> x.take(0), 2);
          Due.is("it was the last one", () -> x.text(0), "[1, 2]");
          Due.is("it took it away", () -> x.take(0), -9);
          Due.is("none to replace", () -> x.replace(0, 5), -9);
          x.previous(0);
          x.put(0, 7);
          Due.is("it put one in", () -> x.take(0), -9);
          Due.is("none to replace", () -> x.replace(0, 5), -9);
          x.previous(0);
          Due.is("it told what it had put in", () -> x.take(0), 1);
          Due.is("text", () -> x.text(0), "[1, 2]");
          x.previous(0);
          x.previous(0);
          Due.is("though there was no more ahead", () -> x.take(0), 0);
          Due.is("it was the first one", () -> x.text(0), "[2]");
          Splicemonoid y = told(1);
          y.open(0, 0, 1);
          Due.is("a cursor that begins has none", () -> y.take(0), -9);
          Splicemonoid z = told(1);
          z.open(1, 0, 1);
          Due.is("another one has none", () -> z.take(1), -9);
          Due.is("this one has it still", () -> z.take(0), 0);
        });
    edges.edge("another one that it put in the place of LAST is LAST then", () -> {
      Splicemonoid x = told(1);
      x.replace(0, 8);
      Due.is("replaced again", () -> x.replace(0, 9), 1);
      Due.is("text", () -> x.text(0), "[9, 2, 3]");
      Due.is("taken", () -> x.take(0), 0);
      Due.is("text", () -> x.text(0), "[2, 3]");
    });
    edges.edge("so is what stands at the PLACE of LAST, if something else does since)", () -> {
      elseAtLast(x -> x.set(0, 0, 5), "[2, 3]");
      elseAtLast(x -> x.swap(0, 0, 2), "[2, 1]");
      elseAtLast(x -> x.reverse(0), "[2, 1]");
      elseAtLast(x -> x.rotate(0, 1), "[1, 2]");
      elseAtLast(x -> x.fill(0, 4), "[4, 4]");
      elseAtLast(
          x -> {
            x.open(1, 0, 0);
            x.next(1);
            return x.replace(1, 5);
          },
          "[2, 3]");
      Splicemonoid x = told(0);
      x.window(0, 0, 1, 3);
      x.open(0, 4, 0);
      x.next(0);
      x.rotate(0, 1);
      Due.is("in a window", () -> x.take(0), 0);
      Due.is("text", () -> x.text(0), "[3, 2]");
    });
  }

  private static void elseAtLast(Scene.Ask act, String left) {
    Splicemonoid x = told(1);
    act.told(x);
    Due.is("taken", () -> x.take(0), 0);
    Due.is("text", () -> x.text(0), left);
  }

  // ---- what becomes of them

  private static void changes(Edges edges) {
    edges.edge("A CHANGE in a WHERE w (where a method names it", () -> {
      Watch.isChange((x, where) -> x.add(where, 1));
      Watch.isChange((x, where) -> x.insert(where, 1, 1));
      Watch.isChange((x, where) -> x.remove(where, 1));
      Watch.isChange((x, where) -> x.clear(where));
      Watch.isChange((x, where) -> x.splice(where, 1, 2, 1));
      Watch.isChange((x, where) -> x.riffle(where));
      Watch.isChange((x, where) -> x.unriffle(where));
      Watch.isChange((x, where) -> x.sort(where));
      Watch.isChange((x, where) -> x.sortBy(where, 1));
    });
    edges.edge(
        "by a CURSOR: in that over which it goes): behind it each WINDOW of the same ROW that is no"
            + " HOLDER of w is GONE (it is not there any more), and each CURSOR over a WHERE of the"
            + " same ROW, but the one that did it",
        () -> {
          Watch.isChangeByCursor(x -> x.put(1, 1));
          Watch.isChangeByCursor(x -> x.take(1));
        });
    edges.edge("(WINDOWS that are HOLDERS of w have as many ITEMS more or less then", () -> {
      Splicemonoid x = Watch.at(5);
      x.add(5, 1);
      Due.is("one more", () -> x.size(0) + " " + x.size(4) + " " + x.size(5), "8 6 3");
      x.splice(5, 0, 0, 1);
      Due.is("three more", () -> x.size(0) + " " + x.size(4) + " " + x.size(5), "11 9 6");
      x.clear(5);
      Due.is("six less", () -> x.size(0) + " " + x.size(4) + " " + x.size(5), "5 3 0");
      x.splice(5, 0, 0, 4);
      Due.is("three more", () -> x.size(0) + " " + x.size(4) + " " + x.size(5), "8 6 3");
      x.clear(4);
      Due.is("six less", () -> x.text(0) + x.size(4), "[26, 20]0");
      Due.is("that is no holder", () -> x.size(5), Due.BOUNDS);
    });
    edges.edge("So nothing goes on over what was changed behind its back.)", () -> {
      Splicemonoid x = Watch.at(5);
      x.remove(0, 0);
      Due.is("next", () -> x.next(1), Due.STATE);
      Due.is("take", () -> x.take(1), Due.STATE);
      Due.is("a window", () -> x.get(5, 0), Due.BOUNDS);
      Due.is("a window in it", () -> x.add(6, 1), Due.BOUNDS);
      Due.is("those of another row go on", () -> x.next(2), 30);
    });
    edges.edge(
        "As a ROW becomes another one (copy(), places(), through(), addAll(), removeAll(),"
            + " retainAll()",
        () -> {
          Watch.isAnother((x, row) -> x.copy(row, row));
          Watch.isAnother((x, row) -> x.places(row, x.size(row)));
          Watch.isAnother((x, row) -> x.through(row, 2, row));
          Watch.isAnother((x, row) -> x.addAll(row, 0, 1));
          Watch.isAnother((x, row) -> x.removeAll(row, row));
          Watch.isAnother((x, row) -> x.retainAll(row, 2));
        });
    edges.edge(
        "the last two also if nothing went), all its WINDOWS are GONE, and all CURSORS over it and"
            + " them",
        () -> {
          Watch.isAnother((x, row) -> x.removeAll(row, 2));
          Watch.isAnother((x, row) -> x.removeAll(row, 1 - row));
          Watch.isAnother((x, row) -> x.retainAll(row, row));
          Splicemonoid x = new Splicemonoid();
          x.window(0, 0, 0, 0);
          x.open(0, 4, 0);
          x.removeAll(0, 1);
          Due.is("of none", () -> x.house(1) + x.house(2), 0);
          x.window(0, 0, 0, 0);
          x.open(0, 0, 0);
          x.retainAll(0, 0);
          Due.is("of none", () -> x.house(1) + x.house(2), 0);
        });
    edges.edge(
        "All else (set(), swap(), reverse(), rotate(), fill(), and a CURSOR that puts an ITEM in"
            + " the place of LAST) changes neither WINDOWS nor CURSORS: these see the new ITEMS",
        () -> {
          Watch.isNoChange((x, where) -> x.set(where, 1, 9));
          Watch.isNoChange((x, where) -> x.swap(where, 0, 1));
          Watch.isNoChange((x, where) -> x.reverse(where));
          Watch.isNoChange((x, where) -> x.rotate(where, 1));
          Watch.isNoChange((x, where) -> x.rotate(where, -99));
          Watch.isNoChange((x, where) -> x.fill(0, 9));
          Watch.isNoChange((x, where) -> x.replace(1, 9));
        });
  }
}
