/** The boundary cases of promises 47 to 50: the whole. */
public final class WholeEdgesTest {
  public static void main(String[] args) {
    promises47And48();
    promise49();
    promise50();
    Edges.end("WholeEdgesTest", 47, 50);
  }

  private static void promises47And48() {
    Edges.of(47)
        .edge(
            "`what`: 0 ITEMS of all ROWS, 1 WINDOWS that are there, 2 CURSORS that are there, 3 how"
                + " often it was knocked",
            () -> {
              for (int i = 0; i < 4; i++) {
                int what = i;
                Due.is("of a new one", () -> new Splicemonoid().house(what), 0);
                int[] of = {20, 3, 2, 1};
                Due.is("of " + i, () -> Scene.furnished().house(what), of[i]);
              }
              Splicemonoid x = Scene.withEmptyWindow();
              for (int row = 0; row < 4; row++) {
                x.places(row, 12);
              }
              Due.is("of four full rows", () -> x.house(0), 48);
              for (int i = 0; i < 4; i++) {
                x.window(i, 0, 0, 0);
              }
              Due.is("of four windows without items", () -> x.house(1), 4);
              for (int i = 0; i < 3; i++) {
                x.open(i, 7, 0);
              }
              Due.is("of three cursors", () -> x.house(2), 3);
              x.clear(1);
              Due.is("of three full rows", () -> x.house(0), 36);
              Due.is("windows stand", () -> x.house(1) * 10 + x.house(2), 43);
            })
        .argument("what is not 0 to 3", () -> {
          Scene.noSuchNumber(0, 3, (x, what) -> x.house(what));
          int[] wrong = {Scene.LOW, -1, 4, Scene.HIGH};
          Scene.each("new", wrong, Splicemonoid::new, (x, what) -> x.house(what), Due.ARGUMENT);
        })
        .all();
    Edges.of(48)
        .edge("Returns how often ever, with this", () -> {
          Splicemonoid x = new Splicemonoid();
          for (int i = 1; i <= 500; i++) {
            Due.is("knock", x::knock, i);
          }
          Due.is("what it tells", () -> x.house(3), 500);
          Due.is("of another one", () -> new Splicemonoid().knock(), 1);
          Splicemonoid y = Scene.furnished();
          String before = y.text(0) + y.house(1) + y.house(2);
          Due.is("the second one", y::knock, 2);
          Due.is("all else stands", () -> y.text(0) + y.house(1) + y.house(2), before);
        })
        .all();
  }

  /** Rows of each length there can be, with numbers that are alike and below 0 among them. */
  private static Splicemonoid ofLengths(int first) {
    Splicemonoid x = new Splicemonoid();
    for (int row = 0; row < 4; row++) {
      for (int place = 0; place < first + row && place < 12; place++) {
        x.add(row, (place * 37 + 50) % 23 - 11);
      }
    }
    return x;
  }

  private static void isSound(Scene.Ask held) {
    for (int first = 0; first <= 12; first++) {
      Splicemonoid x = ofLengths(first);
      Due.is("isSound() from " + first + " items on", x::isSound, true);
      Due.is("it is so from " + first + " items on", () -> held.told(x), true);
    }
    Scene.leaves("it is asked", Scene::withEmptyWindow, Splicemonoid::isSound, true);
  }

  private static boolean isRotation(Splicemonoid x, int by) {
    int many = x.size(0);
    x.copy(0, 1);
    x.rotate(1, by);
    x.reverse(0);
    int cut = many == 0 ? 0 : by % many;
    x.window(0, 0, 0, cut);
    x.window(1, 0, cut, many);
    x.reverse(4);
    x.reverse(5);
    return x.areSame(0, 1);
  }

  private static void promise49() {
    Edges.of(49)
        .edge(
            "Returns whether of each ROW all of this is so (on copies of it): a rotation by 1, 2"
                + " and 5 is three reversals (of all, then of the first ones and of the others)",
            () -> isSound(x -> isRotation(x, 1) && isRotation(x, 2) && isRotation(x, 5)))
        .edge("what was riffled is unriffled to the same", () -> isSound(x -> {
          x.copy(0, 1);
          x.riffle(0);
          x.unriffle(0);
          return x.areSame(0, 1);
        }))
        .edge("what was turned twice is the same, with the same HASH", () -> isSound(x -> {
          int hash = x.hash(0);
          x.copy(0, 1);
          x.reverse(0);
          x.reverse(0);
          return x.areSame(0, 1) && x.hash(0) == hash;
        }))
        .edge("sorted by falling numbers it is what it is sorted by rising ones and turned", () ->
            isSound(x -> {
              x.copy(0, 1);
              x.sortBy(0, 0);
              x.sort(1);
              x.reverse(1);
              return x.areSame(0, 1);
            }))
        .edge("and of each WINDOW that its ITEMS stand in its GROUND one behind the other", () ->
            isSound(x -> {
              x.window(0, 0, 0, x.size(0));
              x.window(1, 4, x.size(0), x.size(0));
              x.window(2, 4, 0, x.size(0) / 2);
              return x.isSound() && x.partAt(0, 4) == 0 && x.partAt(4, 6) == 0;
            }))
        .all();
  }

  private static long d;

  private static void mix(long v) {
    d = d * 31 + v;
  }

  private static void mixItems(Splicemonoid x, int where, int many) {
    for (int place = 0; place < many; place++) {
      mix(x.get(where, place));
    }
  }

  private static long summed(Splicemonoid x) {
    d = 7807;
    for (int what = 0; what < 4; what++) {
      mix(x.house(what));
    }
    for (int row = 0; row < 4; row++) {
      mix(x.size(row));
      mixItems(x, row, x.size(row));
      mix(x.hash(row));
      mix(x.text(row).length());
    }
    for (int window = 0; window < 4; window++) {
      for (int what = 0; what < 3; what++) {
        mix(x.ofWindow(window, what));
      }
      mixItems(x, window + 4, x.ofWindow(window, 2));
    }
    for (int cursor = 0; cursor < 3; cursor++) {
      for (int what = 0; what < 5; what++) {
        mix(x.ofCursor(cursor, what));
      }
    }
    for (int row = 0; row < 4; row++) {
      for (int part = 0; part < 4; part++) {
        mix(x.partAt(row, part));
      }
    }
    mix(x.isSound() ? 1 : 0);
    return d;
  }

  private static void promise50() {
    Edges.of(50)
        .edge(
            "then d becomes d * 31 + v, which wraps around as a 64-bit integer, for each v in this"
                + " order: house() of 0 to 3",
            () -> {
              Scene.leaves(
                  "furnished", Scene::furnished, Splicemonoid::digest, summed(Scene.furnished()));
              Scene.leaves(
                  "with an empty window", Scene::withEmptyWindow,
                  Splicemonoid::digest, summed(Scene.withEmptyWindow()));
              Scene.Maker all = () -> {
                Splicemonoid x = new Splicemonoid();
                for (int row = 0; row < 4; row++) {
                  x.places(row, 12);
                  x.fill(row, row % 2 == 0 ? 99 : -99);
                  x.window(row, row, 0, 12);
                }
                return x;
              };
              Scene.leaves("all full", all, Splicemonoid::digest, summed(all.made()));
              Due.is("of a new one", new Splicemonoid()::digest, summed(new Splicemonoid()));
            })
        .edge("1 if isSound(), otherwise 0", () -> {
          for (int i = 0; i <= 12; i++) {
            int first = i;
            Due.is("from " + i, () -> ofLengths(first).digest(), summed(ofLengths(first)));
            Due.is("sound", () -> ofLengths(first).isSound(), true);
          }
        })
        .all();
  }
}
