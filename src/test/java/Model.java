import java.util.ArrayList;
import java.util.Collections;
import java.util.Comparator;
import java.util.List;
import java.util.Set;
import java.util.TreeSet;

/**
 * The document once more, held in another way (lists of the Java library, windows by their places in
 * the ground alone), to hold the class against. It is slow, and it need not keep to LANGUAGE.md.
 */
final class Model {
  private static final class Window {
    int ground;
    int from;
    int to;
  }

  private static final class Cursor {
    int where;
    int index;
    int last = -1;
  }

  private final List<List<Integer>> rows = new ArrayList<>();
  private final Window[] windows = new Window[4];
  private final Cursor[] cursors = new Cursor[3];
  private int knocks;

  Model() {
    for (int row = 0; row < 4; row++) {
      rows.add(new ArrayList<>());
    }
  }

  // ---- the description

  private static void bounds(boolean isFine) {
    if (!isFine) {
      throw new IndexOutOfBoundsException();
    }
  }

  private static void argument(boolean isFine) {
    if (!isFine) {
      throw new IllegalArgumentException();
    }
  }

  private static void state(boolean isFine) {
    if (!isFine) {
      throw new IllegalStateException();
    }
  }

  private static boolean isFrom(int least, int number, int most) {
    return least <= number && number <= most;
  }

  private boolean isWhere(int where) {
    return isFrom(0, where, 3) || isFrom(4, where, 7) && windows[where - 4] != null;
  }

  private static boolean isRow(int row) {
    return isFrom(0, row, 3);
  }

  private List<Integer> items(int where) {
    if (where < 4) {
      return new ArrayList<>(rows.get(where));
    }
    Window w = windows[where - 4];
    return new ArrayList<>(items(w.ground).subList(w.from, w.to));
  }

  private int many(int where) {
    return items(where).size();
  }

  private int rowOf(int where) {
    return where < 4 ? where : rowOf(windows[where - 4].ground);
  }

  private Set<Integer> holders(int where) {
    Set<Integer> all = where < 4 ? new TreeSet<>() : holders(windows[where - 4].ground);
    all.add(where);
    return all;
  }

  private void exchange(int where, int from, int to, List<Integer> come) {
    if (where < 4) {
      List<Integer> part = rows.get(where).subList(from, to);
      part.clear();
      part.addAll(come);
      return;
    }
    Window w = windows[where - 4];
    exchange(w.ground, w.from + from, w.from + to, come);
    w.to += come.size() - (to - from);
  }

  private void become(int where, List<Integer> items) {
    exchange(where, 0, many(where), items);
  }

  private void drop(Set<Integer> gone) {
    for (int c = 0; c < 3; c++) {
      if (cursors[c] != null && gone.contains(cursors[c].where)) {
        cursors[c] = null;
      }
    }
    for (int where : gone) {
      windows[where - 4] = null;
    }
  }

  private void change(int where, Cursor doer) {
    Set<Integer> stay = holders(where);
    Set<Integer> gone = new TreeSet<>();
    for (int w = 4; w < 8; w++) {
      if (isWhere(w) && rowOf(w) == rowOf(where) && !stay.contains(w)) {
        gone.add(w);
      }
    }
    for (int c = 0; c < 3; c++) {
      Cursor cursor = cursors[c];
      if (cursor != null && cursor != doer && rowOf(cursor.where) == rowOf(where)) {
        cursors[c] = null;
      }
    }
    drop(gone);
  }

  private Set<Integer> heldBy(int window) {
    Set<Integer> held = new TreeSet<>();
    for (int w = 4; w < 8; w++) {
      if (isWhere(w) && holders(w).contains(window)) {
        held.add(w);
      }
    }
    return held;
  }

  private int first(int where) {
    return many(where) == 0 ? 100 : items(where).get(0);
  }

  private boolean isFull(int where) {
    return many(rowOf(where)) == 12;
  }

  // ---- promises 2 to 17

  int add(int where, int item) {
    bounds(isWhere(where));
    argument(isFrom(-99, item, 99));
    state(!isFull(where));
    exchange(where, many(where), many(where), List.of(item));
    change(where, null);
    return many(where);
  }

  int insert(int where, int place, int item) {
    bounds(isWhere(where));
    argument(isFrom(-99, item, 99));
    state(!isFull(where));
    if (!isFrom(0, place, many(where))) {
      return -9;
    }
    exchange(where, place, place, List.of(item));
    change(where, null);
    return many(where);
  }

  int set(int where, int place, int item) {
    bounds(isWhere(where) && isFrom(0, place, many(where) - 1));
    argument(isFrom(-99, item, 99));
    int before = items(where).get(place);
    exchange(where, place, place + 1, List.of(item));
    return before;
  }

  int remove(int where, int place) {
    bounds(isWhere(where) && isFrom(0, place, many(where) - 1));
    int before = items(where).get(place);
    exchange(where, place, place + 1, List.of());
    change(where, null);
    return before;
  }

  int clear(int where) {
    bounds(isWhere(where));
    int before = many(where);
    if (before > 0) {
      become(where, List.of());
      change(where, null);
    }
    return before;
  }

  int splice(int where, int from, int to, int with) {
    bounds(isWhere(where) && isWhere(with));
    if (from < 0 || from > to || to > many(where)) {
      return -9;
    }
    List<Integer> come = items(with);
    state(many(rowOf(where)) - (to - from) + come.size() <= 12);
    if (from < to || !come.isEmpty()) {
      exchange(where, from, to, come);
      change(where, null);
    }
    return many(where);
  }

  int rotate(int where, int by) {
    bounds(isWhere(where));
    argument(isFrom(-99, by, 99));
    List<Integer> items = items(where);
    Collections.rotate(items, by);
    become(where, items);
    return first(where);
  }

  int reverse(int where) {
    bounds(isWhere(where));
    List<Integer> items = items(where);
    Collections.reverse(items);
    become(where, items);
    return first(where);
  }

  int swap(int where, int one, int other) {
    bounds(isWhere(where));
    bounds(isFrom(0, one, many(where) - 1) && isFrom(0, other, many(where) - 1));
    List<Integer> items = items(where);
    Collections.swap(items, one, other);
    become(where, items);
    return items.get(one);
  }

  int riffle(int where) {
    bounds(isWhere(where));
    List<Integer> items = items(where);
    int half = (items.size() + 1) / 2;
    List<Integer> mixed = new ArrayList<>();
    for (int i = 0; i < half; i++) {
      mixed.add(items.get(i));
      if (half + i < items.size()) {
        mixed.add(items.get(half + i));
      }
    }
    if (items.size() >= 2) {
      become(where, mixed);
      change(where, null);
    }
    return items.size();
  }

  int unriffle(int where) {
    bounds(isWhere(where));
    List<Integer> items = items(where);
    List<Integer> parted = new ArrayList<>();
    List<Integer> others = new ArrayList<>();
    for (int i = 0; i < items.size(); i++) {
      (i % 2 == 0 ? parted : others).add(items.get(i));
    }
    parted.addAll(others);
    if (items.size() >= 2) {
      become(where, parted);
      change(where, null);
    }
    return items.size();
  }

  private int sorted(int where, Comparator<Integer> order) {
    List<Integer> items = items(where);
    items.sort(order);
    become(where, items);
    change(where, null);
    return first(where);
  }

  int sort(int where) {
    bounds(isWhere(where));
    return sorted(where, Comparator.naturalOrder());
  }

  int sortBy(int where, int by) {
    bounds(isWhere(where));
    argument(isFrom(0, by, 2));
    List<Comparator<Integer>> orders =
        List.of(
            Comparator.reverseOrder(),
            Comparator.comparing(item -> ((item % 10) + 10) % 10),
            Comparator.comparing(item -> item >= 0));
    return sorted(where, orders.get(by));
  }

  int get(int where, int place) {
    bounds(isWhere(where) && isFrom(0, place, many(where) - 1));
    return items(where).get(place);
  }

  int size(int where) {
    bounds(isWhere(where));
    return many(where);
  }

  int partAt(int where, int part) {
    bounds(isWhere(where) && isWhere(part));
    return Collections.indexOfSubList(items(where), items(part));
  }

  // ---- promises 18 to 35

  int fill(int row, int item) {
    bounds(isRow(row));
    argument(isFrom(-99, item, 99));
    Collections.fill(rows.get(row), item);
    return many(row);
  }

  int removeItem(int row, int item) {
    bounds(isRow(row));
    if (!rows.get(row).remove((Integer) item)) {
      return 0;
    }
    change(row, null);
    return 1;
  }

  int addAll(int row, int place, int from) {
    bounds(isRow(row) && isRow(from));
    List<Integer> come = items(from);
    state(many(row) + come.size() <= 12);
    if (come.isEmpty()) {
      return many(row);
    }
    if (!isFrom(0, place, many(row))) {
      return -9;
    }
    rows.get(row).addAll(place, come);
    change(row, null);
    return many(row);
  }

  int removeAll(int row, int from) {
    bounds(isRow(row) && isRow(from));
    int before = many(row);
    rows.get(row).removeAll(items(from));
    change(row, null);
    return before - many(row);
  }

  int retainAll(int row, int from) {
    bounds(isRow(row) && isRow(from));
    int before = many(row);
    rows.get(row).retainAll(items(from));
    change(row, null);
    return before - many(row);
  }

  private int another(int row, List<Integer> items) {
    rows.set(row, items);
    change(row, null);
    return items.size();
  }

  int copy(int where, int row) {
    bounds(isWhere(where) && isRow(row));
    return another(row, items(where));
  }

  int places(int row, int many) {
    bounds(isRow(row));
    argument(isFrom(0, many, 12));
    List<Integer> items = new ArrayList<>();
    for (int i = 0; i < many; i++) {
      items.add(i);
    }
    return another(row, items);
  }

  int through(int where, int map, int row) {
    bounds(isWhere(where) && isWhere(map) && isRow(row));
    List<Integer> items = new ArrayList<>();
    for (int place : items(map)) {
      if (place >= many(where)) {
        return -9;
      }
      items.add(place < 0 ? (Integer) place : items(where).get(place));
    }
    return another(row, items);
  }

  int indexOf(int row, int item) {
    bounds(isRow(row));
    return items(row).indexOf(item);
  }

  int lastIndexOf(int row, int item) {
    bounds(isRow(row));
    return items(row).lastIndexOf(item);
  }

  boolean contains(int row, int item) {
    bounds(isRow(row));
    return items(row).contains(item);
  }

  int howOften(int row, int item) {
    bounds(isRow(row));
    return Collections.frequency(items(row), item);
  }

  int least(int row, boolean isMost) {
    bounds(isRow(row));
    state(many(row) > 0);
    return isMost ? Collections.max(items(row)) : Collections.min(items(row));
  }

  boolean areApart(int row, int other) {
    bounds(isRow(row) && isRow(other));
    return Collections.disjoint(items(row), items(other));
  }

  boolean areSame(int row, int other) {
    bounds(isRow(row) && isRow(other));
    return items(row).equals(items(other));
  }

  int hash(int row) {
    bounds(isRow(row));
    return items(row).hashCode();
  }

  String text(int row) {
    bounds(isRow(row));
    return items(row).toString();
  }

  int inArray(int row, int place) {
    bounds(isRow(row) && isFrom(0, place, many(row) - 1));
    return items(row).get(place);
  }

  // ---- promises 36 to 38

  int window(int window, int where, int from, int to) {
    bounds(isFrom(0, window, 3) && isWhere(where));
    state(!holders(where).contains(window + 4));
    if (from < 0 || from > to || to > many(where)) {
      return -9;
    }
    drop(heldBy(window + 4));
    windows[window] = new Window();
    windows[window].ground = where;
    windows[window].from = from;
    windows[window].to = to;
    return to - from;
  }

  int close(int window) {
    bounds(isFrom(0, window, 3));
    if (windows[window] == null) {
      return -9;
    }
    drop(heldBy(window + 4));
    return house(1);
  }

  int ofWindow(int window, int what) {
    bounds(isFrom(0, window, 3));
    argument(isFrom(0, what, 2));
    if (windows[window] == null) {
      return -1;
    }
    int where = window + 4;
    return List.of(windows[window].ground, rowOf(where), many(where)).get(what);
  }

  // ---- promises 39 to 46

  int open(int cursor, int where, int place) {
    bounds(isFrom(0, cursor, 2) && isWhere(where) && isFrom(0, place, many(where)));
    cursors[cursor] = new Cursor();
    cursors[cursor].where = where;
    cursors[cursor].index = place;
    return many(where) - place;
  }

  int shut(int cursor) {
    bounds(isFrom(0, cursor, 2));
    int before = cursors[cursor] == null ? 0 : 1;
    cursors[cursor] = null;
    return before;
  }

  int next(int cursor) {
    bounds(isFrom(0, cursor, 2));
    state(cursors[cursor] != null);
    Cursor c = cursors[cursor];
    if (c.index == many(c.where)) {
      return 100;
    }
    c.last = c.index++;
    return items(c.where).get(c.last);
  }

  int previous(int cursor) {
    bounds(isFrom(0, cursor, 2));
    state(cursors[cursor] != null);
    Cursor c = cursors[cursor];
    if (c.index == 0) {
      return 100;
    }
    c.last = --c.index;
    return items(c.where).get(c.last);
  }

  int put(int cursor, int item) {
    bounds(isFrom(0, cursor, 2));
    argument(isFrom(-99, item, 99));
    state(cursors[cursor] != null && !isFull(cursors[cursor].where));
    Cursor c = cursors[cursor];
    exchange(c.where, c.index, c.index, List.of(item));
    change(c.where, c);
    c.last = -1;
    return ++c.index;
  }

  int take(int cursor) {
    bounds(isFrom(0, cursor, 2));
    state(cursors[cursor] != null);
    Cursor c = cursors[cursor];
    if (c.last < 0) {
      return -9;
    }
    exchange(c.where, c.last, c.last + 1, List.of());
    change(c.where, c);
    c.index -= c.last < c.index ? 1 : 0;
    c.last = -1;
    return c.index;
  }

  int replace(int cursor, int item) {
    bounds(isFrom(0, cursor, 2));
    argument(isFrom(-99, item, 99));
    state(cursors[cursor] != null);
    Cursor c = cursors[cursor];
    if (c.last < 0) {
      return -9;
    }
    exchange(c.where, c.last, c.last + 1, List.of(item));
    return c.index;
  }

  int ofCursor(int cursor, int what) {
    bounds(isFrom(0, cursor, 2));
    argument(isFrom(0, what, 4));
    Cursor c = cursors[cursor];
    if (c == null) {
      return -1;
    }
    int isBehind = c.index < many(c.where) ? 1 : 0;
    return List.of(c.where, c.index, c.index - 1, isBehind, c.index > 0 ? 1 : 0).get(what);
  }

  // ---- promises 47 to 50

  int house(int what) {
    argument(isFrom(0, what, 3));
    int[] counts = {0, 0, 0, knocks};
    for (int row = 0; row < 4; row++) {
      counts[0] += many(row);
      counts[1] += windows[row] == null ? 0 : 1;
    }
    for (Cursor cursor : cursors) {
      counts[2] += cursor == null ? 0 : 1;
    }
    return counts[what];
  }

  int knock() {
    return ++knocks;
  }

  /** What it asks is so of every row and window that acts as the document says. */
  boolean isSound() {
    return true;
  }

  long digest() {
    List<Integer> values = new ArrayList<>();
    for (int what = 0; what < 4; what++) {
      values.add(house(what));
    }
    for (int row = 0; row < 4; row++) {
      values.add(many(row));
      values.addAll(items(row));
      values.add(hash(row));
      values.add(text(row).length());
    }
    for (int window = 0; window < 4; window++) {
      for (int what = 0; what < 3; what++) {
        values.add(ofWindow(window, what));
      }
      values.addAll(windows[window] == null ? List.of() : items(window + 4));
    }
    for (int cursor = 0; cursor < 3; cursor++) {
      for (int what = 0; what < 5; what++) {
        values.add(ofCursor(cursor, what));
      }
    }
    for (int i = 0; i < 16; i++) {
      values.add(partAt(i / 4, i % 4));
    }
    values.add(1);
    long d = 7807;
    for (int v : values) {
      d = d * 31 + v;
    }
    return d;
  }
}
