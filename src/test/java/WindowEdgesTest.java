/** The boundary cases of promises 36 to 38: windows. */
public final class WindowEdgesTest {
  private static final String NO_WINDOW = "window is not 0 to 3";

  public static void main(String[] args) {
    promise36Opened();
    promise36Refused();
    promise37();
    promise38();
    Edges.end("WindowEdgesTest", 36, 38);
  }

  /**
   * 4 sees row 0, 5 sees 4, 6 sees 5, 7 sees row 0 beside them; the cursors go over 4, 5 and 6. All
   * windows see all there is.
   */
  private static Splicemonoid chain() {
    Splicemonoid x = Due.rows(Due.row(1, 2, 3), Due.row(4, 5));
    x.window(0, 0, 0, 3);
    x.window(1, 4, 0, 3);
    x.window(2, 5, 0, 3);
    x.window(3, 0, 0, 3);
    for (int cursor = 0; cursor < 3; cursor++) {
      x.open(cursor, 4 + cursor, 1);
      x.next(cursor);
    }
    return x;
  }

  private static String standing(Splicemonoid x) {
    StringBuilder seen = new StringBuilder();
    for (int window = 0; window < 4; window++) {
      seen.append(x.ofWindow(window, 0)).append(' ');
    }
    seen.append('|');
    for (int cursor = 0; cursor < 3; cursor++) {
      seen.append(' ').append(x.ofCursor(cursor, 0));
    }
    return seen.toString();
  }

  private static void stands(String name, Scene.Ask act, int want, String standing) {
    Splicemonoid x = chain();
    Due.is(name, () -> act.told(x), want);
    Due.is(name + ": what stands", () -> standing(x), standing);
    Due.is(name + ": the items stand", () -> x.text(0) + x.text(1), "[1, 2, 3][4, 5]");
  }

  private static void promise36Opened() {
    Due.is("what stands at first", () -> standing(chain()), "0 4 5 0 | 4 5 6");
    Edges.of(36)
        .edge(
            "A WINDOW is opened (one that was there is GONE ahead of that, with all WINDOWS that"
                + " have it as a HOLDER, and the CURSORS over it and these)",
            () -> {
              stands("0 anew", x -> x.window(0, 1, 0, 2), 2, "1 -1 -1 0 | -1 -1 -1");
              stands("0 in its ground", x -> x.window(0, 0, 0, 3), 3, "0 -1 -1 0 | -1 -1 -1");
              stands("1 anew", x -> x.window(1, 0, 1, 1), 0, "0 0 -1 0 | 4 -1 -1");
              stands("1 in its ground", x -> x.window(1, 4, 0, 3), 3, "0 4 -1 0 | 4 -1 -1");
              stands("1 in another window", x -> x.window(1, 7, 3, 3), 0, "0 7 -1 0 | 4 -1 -1");
              stands("2 anew", x -> x.window(2, 4, 0, 1), 1, "0 4 4 0 | 4 5 -1");
              stands("3 anew", x -> x.window(3, 6, 0, 3), 3, "0 4 5 6 | 4 5 6");
              Splicemonoid x = chain();
              x.close(0);
              Due.is("one that was not there", () -> x.window(2, 7, 1, 3), 2);
              Due.is("what stands", () -> standing(x), "-1 -1 7 0 | -1 -1 -1");
              Due.is("its items", () -> x.get(6, 0) * 10 + x.get(6, 1), 23);
              Due.is("one over none", () -> x.window(0, 3, 0, 0), 0);
              Due.is("one at the end", () -> x.window(1, 6, 2, 2), 0);
              Due.is("what stands", () -> standing(x), "3 6 7 0 | -1 -1 -1");
            })
        .edge("Returns how many ITEMS it has", () -> {
          for (int from = 0; from <= 3; from++) {
            for (int to = from; to <= 3; to++) {
              int a = from;
              int b = to;
              Due.is("of a row", () -> chain().window(0, 0, a, b), b - a);
              Due.is("of a window", () -> chain().window(2, 4, a, b), b - a);
            }
          }
          Due.is("of 12", () -> Scene.furnished().window(0, 3, 0, 12), 12);
        })
        .edge(
            "REFUSED if from is below 0, above to, or to is above how many ITEMS the GROUND has"
                + " (nothing is GONE then)",
            WindowEdgesTest::promise36Refused)
        .bounds("window is not 0 to 3, or there is no such WHERE", () -> {
          Scene.noSuchIndex(3, (x, window) -> x.window(window, 0, 0, 1));
          Scene.noSuchWhere((x, where) -> x.window(0, where, 0, 0));
          Scene.noSuchWhere((x, where) -> x.window(2, where, 0, 0));
          Scene.noSuchWhere((x, both) -> x.window(both, both, 0, 0));
        })
        .state("the GROUND is that WINDOW, or has it as a HOLDER", () -> {
          Scene.Maker chain = WindowEdgesTest::chain;
          for (int i = 0; i < 4; i++) {
            int window = i;
            Scene.leaves("itself", chain, x -> x.window(window, window + 4, 0, 1), Due.STATE);
          }
          Scene.leaves("1 has 0", chain, x -> x.window(0, 5, 0, 1), Due.STATE);
          Scene.leaves("2 has 1", chain, x -> x.window(1, 6, 0, 1), Due.STATE);
          Scene.leaves("2 has 0", chain, x -> x.window(0, 6, 0, 1), Due.STATE);
          Scene.Maker four = () -> {
            Splicemonoid x = chain();
            x.window(3, 6, 1, 2);
            return x;
          };
          Scene.leaves("3 has 0", four, x -> x.window(0, 7, 0, 1), Due.STATE);
          Due.is("0 has not 1", () -> chain().window(1, 4, 0, 1), 1);
          Due.is("2 has not 3", () -> chain().window(3, 6, 0, 1), 1);
          Due.is("3 has not 2", () -> chain().window(2, 7, 0, 1), 1);
        })
        .all();
  }

  private static void promise36Refused() {
    Scene.Maker chain = WindowEdgesTest::chain;
    int[] belows = {Scene.LOW, -1};
    Scene.each("from", belows, chain, (x, from) -> x.window(1, 0, from, 2), -9);
    Scene.each("both", belows, chain, (x, at) -> x.window(1, 0, at, at), -9);
    Scene.each("to", belows, chain, (x, to) -> x.window(1, 0, 0, to), -9);
    int[] aboves = {3, 4, Scene.HIGH};
    Scene.each("from", aboves, chain, (x, from) -> x.window(0, 0, from, 2), -9);
    int[] beyond = {4, Scene.HIGH};
    Scene.each("to", beyond, chain, (x, to) -> x.window(1, 4, 3, to), -9);
    Scene.each("both", beyond, chain, (x, at) -> x.window(0, 0, at, at), -9);
    Scene.leaves("all", chain, x -> x.window(0, 0, Scene.LOW, Scene.HIGH), -9);
    Scene.leaves("one of none", chain, x -> x.window(0, 2, 0, 1), -9);
    Scene.leaves("of another row", chain, x -> x.window(0, 1, 0, 3), -9);
    // The row has five items here, of which the ground sees four.
    Scene.leaves("in the row alone", Scene::furnished, x -> x.window(1, 4, 0, 5), -9);
    Scene.leaves("one that is not there", Scene::furnished, x -> x.window(2, 4, 4, 5), -9);
  }

  private static void promise37() {
    Edges.of(37)
        .edge(
            "A WINDOW is GONE, with all WINDOWS that have it as a HOLDER, and the CURSORS over it"
                + " and these",
            () -> {
              stands("0", x -> x.close(0), 1, "-1 -1 -1 0 | -1 -1 -1");
              stands("1", x -> x.close(1), 2, "0 -1 -1 0 | 4 -1 -1");
              stands("2", x -> x.close(2), 3, "0 4 -1 0 | 4 5 -1");
              stands("3", x -> x.close(3), 3, "0 4 5 -1 | 4 5 6");
              Splicemonoid x = chain();
              x.open(2, 0, 0);
              x.close(0);
              Due.is("the cursor over the row stands", () -> x.ofCursor(2, 0), 0);
              Due.is("as a where it is not there", () -> x.size(4), Due.BOUNDS);
            })
        .edge("Returns how many WINDOWS are there then", () -> {
          Splicemonoid x = chain();
          Due.is("three", () -> x.close(2), 3);
          Due.is("two", () -> x.close(3), 2);
          Due.is("one", () -> x.close(1), 1);
          Due.is("none", () -> x.close(0), 0);
        })
        .edge("REFUSED if it is not there", () -> {
          Scene.leaves("it is closed", Scene::furnished, x -> x.close(2), -9);
          for (int i = 0; i < 4; i++) {
            int window = i;
            Scene.leaves("it never was", Splicemonoid::new, x -> x.close(window), -9);
          }
          Splicemonoid x = chain();
          x.close(0);
          Due.is("it went with another one", () -> x.close(2), -9);
          x.add(0, 1);
          Due.is("it went by a change", () -> x.close(3), -9);
        })
        .bounds(NO_WINDOW, () -> Scene.noSuchIndex(3, (x, window) -> x.close(window)))
        .all();
  }

  private static void promise38() {
    Edges.of(38)
        .edge("NONE if it is not there", () -> {
          for (int i = 0; i < 3; i++) {
            int what = i;
            Scene.leaves("it is closed", Scene::furnished, x -> x.ofWindow(2, what), -1);
            Scene.leaves("it never was", Splicemonoid::new, x -> x.ofWindow(3, what), -1);
            Splicemonoid x = chain();
            x.places(0, 3);
            Due.is("it went by a change", () -> x.ofWindow(0, what), -1);
          }
          Due.is("an empty one is there", () -> Scene.withEmptyWindow().ofWindow(2, 2), 0);
        })
        .bounds(NO_WINDOW, () -> {
          for (int i = 0; i < 3; i++) {
            int what = i;
            Scene.noSuchIndex(3, (x, window) -> x.ofWindow(window, what));
          }
        })
        .argument("what is not 0 to 2", () -> {
          Scene.noSuchNumber(0, 2, (x, what) -> x.ofWindow(0, what));
          Scene.noSuchNumber(0, 2, (x, what) -> x.ofWindow(2, what));
        })
        .all();
  }
}
