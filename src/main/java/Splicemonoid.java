/**
 * Rows of numbers on which one acts by places, windows that are rows themselves, and cursors
 * that stand between the numbers. The numbered promises stand in the document DOC.md.
 */
public final class Splicemonoid {
  private static final int NONE = -1;
  private static final int REFUSED = -9;
  private static final int NO_ITEM = 100;

  private static final int ROWS = 4;
  private static final int WINDOWS = 4;
  private static final int WHERES = ROWS + WINDOWS;
  private static final int CURSORS = 3;
  private static final int MOST_ITEMS = 12;
  private static final int GREATEST = 99;

  private static final int FALLING = 0;
  private static final int LEFT_BY_TEN = 1;
  private static final int BELOW_ZERO_FIRST = 2;
  private static final int RISING = 3;

  private static final int HOUSE_QUESTIONS = 4;
  private static final int WINDOW_QUESTIONS = 3;
  private static final int CURSOR_QUESTIONS = 5;
  private static final long DIGEST_START = 7807L;

  private final Part[] parts;
  private final Cursor[] cursors;
  // What is on its way into a row waits here, so that a row or a window can come into itself.
  private final Part spare;
  // Copies for isSound(), made once because every object of a run stays in its room.
  private final Part left;
  private final Part right;
  private int knocks;

  public Splicemonoid() {
    parts = new Part[WHERES];
    for (int row = 0; row < ROWS; row++) {
      parts[row] = new Part(row, new int[MOST_ITEMS], true);
    }
    for (int where = ROWS; where < WHERES; where++) {
      parts[where] = new Part(0, parts[0].items, false);
    }
    cursors = new Cursor[CURSORS];
    for (int cursor = 0; cursor < CURSORS; cursor++) {
      cursors[cursor] = new Cursor();
    }
    spare = new Part(NONE, new int[MOST_ITEMS], true);
    left = new Part(NONE, new int[MOST_ITEMS], true);
    right = new Part(NONE, new int[MOST_ITEMS], true);
  }

  // ---- rows and windows

  public int add(int where, int item)
      throws IndexOutOfBoundsException, IllegalArgumentException, IllegalStateException {
    needWhere(where);
    needItem(item);
    needRoom(where, 1);
    putIn(where, parts[where].length, item, NONE);
    return parts[where].length;
  }

  public int insert(int where, int place, int item)
      throws IndexOutOfBoundsException, IllegalArgumentException, IllegalStateException {
    needWhere(where);
    needItem(item);
    needRoom(where, 1);
    if (!parts[where].isGap(place)) {
      return REFUSED;
    }
    putIn(where, place, item, NONE);
    return parts[where].length;
  }

  public int set(int where, int place, int item)
      throws IndexOutOfBoundsException, IllegalArgumentException {
    needPlace(where, place);
    needItem(item);
    int before = parts[where].itemAt(place);
    parts[where].putAt(place, item);
    return before;
  }

  public int remove(int where, int place) throws IndexOutOfBoundsException {
    needPlace(where, place);
    int item = parts[where].itemAt(place);
    takeOut(where, place, place + 1, NONE);
    return item;
  }

  public int clear(int where) throws IndexOutOfBoundsException {
    needWhere(where);
    int many = parts[where].length;
    if (many > 0) {
      takeOut(where, 0, many, NONE);
    }
    return many;
  }

  public int splice(int where, int from, int to, int with)
      throws IndexOutOfBoundsException, IllegalStateException {
    needWhere(where);
    needWhere(with);
    if (!parts[where].isStretch(from, to)) {
      return REFUSED;
    }
    int goes = to - from;
    int comes = parts[with].length;
    needRoom(where, comes - goes);
    if (goes > 0 || comes > 0) {
      spare.becomeLike(parts[with]);
      exchangeForSpare(where, from, to);
      settle(where, NONE);
    }
    return parts[where].length;
  }

  public int rotate(int where, int by) throws IndexOutOfBoundsException, IllegalArgumentException {
    needWhere(where);
    if (by < -GREATEST || by > GREATEST) {
      throw new IllegalArgumentException("a turn goes from -99 to 99");
    }
    parts[where].moveUp(by, spare);
    return parts[where].firstItem();
  }

  public int reverse(int where) throws IndexOutOfBoundsException {
    needWhere(where);
    parts[where].turn(0, parts[where].length);
    return parts[where].firstItem();
  }

  public int swap(int where, int one, int other) throws IndexOutOfBoundsException {
    needPlace(where, one);
    needPlace(where, other);
    parts[where].exchangeTwo(one, other);
    return parts[where].itemAt(one);
  }

  public int riffle(int where) throws IndexOutOfBoundsException {
    needWhere(where);
    if (parts[where].length > 1) {
      parts[where].layHalvesTogether(spare);
      settle(where, NONE);
    }
    return parts[where].length;
  }

  public int unriffle(int where) throws IndexOutOfBoundsException {
    needWhere(where);
    if (parts[where].length > 1) {
      parts[where].drawHalvesApart(spare);
      settle(where, NONE);
    }
    return parts[where].length;
  }

  public int sort(int where) throws IndexOutOfBoundsException {
    needWhere(where);
    parts[where].arrange(RISING);
    settle(where, NONE);
    return parts[where].firstItem();
  }

  public int sortBy(int where, int by) throws IndexOutOfBoundsException, IllegalArgumentException {
    needWhere(where);
    if (by < FALLING || by > BELOW_ZERO_FIRST) {
      throw new IllegalArgumentException("there are the orders 0 to 2");
    }
    parts[where].arrange(by);
    settle(where, NONE);
    return parts[where].firstItem();
  }

  public int get(int where, int place) throws IndexOutOfBoundsException {
    needPlace(where, place);
    return parts[where].itemAt(place);
  }

  public int size(int where) throws IndexOutOfBoundsException {
    needWhere(where);
    return parts[where].length;
  }

  public int partAt(int where, int part) throws IndexOutOfBoundsException {
    needWhere(where);
    needWhere(part);
    return parts[where].placeOfAll(parts[part]);
  }

  // ---- rows alone

  public int fill(int row, int item) throws IndexOutOfBoundsException, IllegalArgumentException {
    needRow(row);
    needItem(item);
    for (int place = 0; place < parts[row].length; place++) {
      parts[row].putAt(place, item);
    }
    return parts[row].length;
  }

  public int removeItem(int row, int item) throws IndexOutOfBoundsException {
    needRow(row);
    int place = parts[row].firstPlaceOf(item);
    if (place == NONE) {
      return 0;
    }
    takeOut(row, place, place + 1, NONE);
    return 1;
  }

  public int addAll(int row, int place, int from)
      throws IndexOutOfBoundsException, IllegalStateException {
    needRow(row);
    needRow(from);
    int comes = parts[from].length;
    needRoom(row, comes);
    if (comes == 0) {
      return parts[row].length;
    }
    if (!parts[row].isGap(place)) {
      return REFUSED;
    }
    spare.becomeLike(parts[from]);
    exchangeForSpare(row, place, place);
    settle(row, NONE);
    return parts[row].length;
  }

  public int removeAll(int row, int from) throws IndexOutOfBoundsException {
    needRow(row);
    needRow(from);
    return sift(row, from, false);
  }

  public int retainAll(int row, int from) throws IndexOutOfBoundsException {
    needRow(row);
    needRow(from);
    return sift(row, from, true);
  }

  public int copy(int where, int row) throws IndexOutOfBoundsException {
    needWhere(where);
    needRow(row);
    spare.becomeLike(parts[where]);
    return becomeSpare(row);
  }

  public int places(int row, int many) throws IndexOutOfBoundsException, IllegalArgumentException {
    needRow(row);
    if (many < 0 || many > MOST_ITEMS) {
      throw new IllegalArgumentException("a row has 0 to 12 items");
    }
    spare.length = 0;
    for (int place = 0; place < many; place++) {
      spare.append(place);
    }
    return becomeSpare(row);
  }

  public int through(int where, int map, int row) throws IndexOutOfBoundsException {
    needWhere(where);
    needWhere(map);
    needRow(row);
    spare.length = 0;
    for (int i = 0; i < parts[map].length; i++) {
      int place = parts[map].itemAt(i);
      if (place >= parts[where].length) {
        return REFUSED;
      }
      spare.append(place < 0 ? place : parts[where].itemAt(place));
    }
    return becomeSpare(row);
  }

  public int indexOf(int row, int item) throws IndexOutOfBoundsException {
    needRow(row);
    return parts[row].firstPlaceOf(item);
  }

  public int lastIndexOf(int row, int item) throws IndexOutOfBoundsException {
    needRow(row);
    int last = NONE;
    for (int place = 0; place < parts[row].length; place++) {
      if (parts[row].itemAt(place) == item) {
        last = place;
      }
    }
    return last;
  }

  public boolean contains(int row, int item) throws IndexOutOfBoundsException {
    needRow(row);
    return parts[row].has(item);
  }

  public int howOften(int row, int item) throws IndexOutOfBoundsException {
    needRow(row);
    int times = 0;
    for (int place = 0; place < parts[row].length; place++) {
      if (parts[row].itemAt(place) == item) {
        times++;
      }
    }
    return times;
  }

  public int least(int row, boolean isMost)
      throws IndexOutOfBoundsException, IllegalStateException {
    needRow(row);
    if (parts[row].length == 0) {
      throw new IllegalStateException("the row has no items");
    }
    int best = parts[row].itemAt(0);
    for (int place = 1; place < parts[row].length; place++) {
      int item = parts[row].itemAt(place);
      best = isMost ? Math.max(best, item) : Math.min(best, item);
    }
    return best;
  }

  public boolean areApart(int row, int other) throws IndexOutOfBoundsException {
    needRow(row);
    needRow(other);
    for (int place = 0; place < parts[row].length; place++) {
      if (parts[other].has(parts[row].itemAt(place))) {
        return false;
      }
    }
    return true;
  }

  public boolean areSame(int row, int other) throws IndexOutOfBoundsException {
    needRow(row);
    needRow(other);
    return parts[row].isLike(parts[other]);
  }

  public int hash(int row) throws IndexOutOfBoundsException {
    needRow(row);
    return parts[row].hashOfItems();
  }

  public String text(int row) throws IndexOutOfBoundsException {
    needRow(row);
    StringBuilder signs = new StringBuilder();
    parts[row].writeTo(signs);
    return signs.toString();
  }

  public int inArray(int row, int place) throws IndexOutOfBoundsException {
    needRow(row);
    needPlace(row, place);
    return parts[row].itemAt(place);
  }

  // ---- windows

  public int window(int window, int where, int from, int to)
      throws IndexOutOfBoundsException, IllegalStateException {
    needWindow(window);
    needWhere(where);
    int own = ROWS + window;
    if (isHolder(own, where)) {
      throw new IllegalStateException("a window can't be seen through at itself");
    }
    if (!parts[where].isStretch(from, to)) {
      return REFUSED;
    }
    dismissWindow(own);
    parts[own].lookAt(parts[where], where, from, to);
    return parts[own].length;
  }

  public int close(int window) throws IndexOutOfBoundsException {
    needWindow(window);
    if (!parts[ROWS + window].isThere) {
      return REFUSED;
    }
    dismissWindow(ROWS + window);
    return windowsThere();
  }

  public int ofWindow(int window, int what)
      throws IndexOutOfBoundsException, IllegalArgumentException {
    needWindow(window);
    needQuestion(what, WINDOW_QUESTIONS);
    Part part = parts[ROWS + window];
    if (!part.isThere) {
      return NONE;
    }
    switch (what) {
      case 0:
        return part.ground;
      case 1:
        return part.row;
      default:
        return part.length;
    }
  }

  // ---- cursors

  public int open(int cursor, int where, int place) throws IndexOutOfBoundsException {
    needCursor(cursor);
    needWhere(where);
    if (!parts[where].isGap(place)) {
      throw new IndexOutOfBoundsException("a cursor can't stand there");
    }
    cursors[cursor].beginAt(where, place);
    return parts[where].length - place;
  }

  public int shut(int cursor) throws IndexOutOfBoundsException {
    needCursor(cursor);
    boolean wasThere = cursors[cursor].isThere;
    cursors[cursor].isThere = false;
    return wasThere ? 1 : 0;
  }

  public int next(int cursor) throws IndexOutOfBoundsException, IllegalStateException {
    needCursorThere(cursor);
    return cursors[cursor].goForth(parts[cursors[cursor].where]);
  }

  public int previous(int cursor) throws IndexOutOfBoundsException, IllegalStateException {
    needCursorThere(cursor);
    return cursors[cursor].goBack(parts[cursors[cursor].where]);
  }

  public int put(int cursor, int item)
      throws IndexOutOfBoundsException, IllegalArgumentException, IllegalStateException {
    needCursor(cursor);
    needItem(item);
    needCursorThere(cursor);
    Cursor doer = cursors[cursor];
    needRoom(doer.where, 1);
    putIn(doer.where, doer.index, item, cursor);
    doer.index++;
    doer.last = NONE;
    return doer.index;
  }

  public int take(int cursor) throws IndexOutOfBoundsException, IllegalStateException {
    needCursorThere(cursor);
    Cursor doer = cursors[cursor];
    if (doer.last == NONE) {
      return REFUSED;
    }
    takeOut(doer.where, doer.last, doer.last + 1, cursor);
    if (doer.last < doer.index) {
      doer.index--;
    }
    doer.last = NONE;
    return doer.index;
  }

  public int replace(int cursor, int item)
      throws IndexOutOfBoundsException, IllegalArgumentException, IllegalStateException {
    needCursor(cursor);
    needItem(item);
    needCursorThere(cursor);
    Cursor doer = cursors[cursor];
    if (doer.last == NONE) {
      return REFUSED;
    }
    parts[doer.where].putAt(doer.last, item);
    return doer.index;
  }

  public int ofCursor(int cursor, int what)
      throws IndexOutOfBoundsException, IllegalArgumentException {
    needCursor(cursor);
    needQuestion(what, CURSOR_QUESTIONS);
    Cursor asked = cursors[cursor];
    if (!asked.isThere) {
      return NONE;
    }
    switch (what) {
      case 0:
        return asked.where;
      case 1:
        return asked.index;
      case 2:
        return asked.index - 1;
      case 3:
        return asked.index < parts[asked.where].length ? 1 : 0;
      default:
        return asked.index > 0 ? 1 : 0;
    }
  }

  // ---- the whole

  public int house(int what) throws IllegalArgumentException {
    needQuestion(what, HOUSE_QUESTIONS);
    switch (what) {
      case 0:
        return itemsOfRows();
      case 1:
        return windowsThere();
      case 2:
        return cursorsThere();
      default:
        return knocks;
    }
  }

  public int knock() {
    knocks++;
    return knocks;
  }

  public boolean isSound() {
    for (int row = 0; row < ROWS; row++) {
      if (!isRowSound(parts[row])) {
        return false;
      }
    }
    for (int where = ROWS; where < WHERES; where++) {
      Part window = parts[where];
      if (window.isThere && parts[window.ground].placeOfAll(window) == NONE) {
        return false;
      }
    }
    return true;
  }

  public long digest() {
    long d = DIGEST_START;
    for (int what = 0; what < HOUSE_QUESTIONS; what++) {
      d = mix(d, house(what));
    }
    d = mixRows(d);
    d = mixWindows(d);
    d = mixCursors(d);
    for (int row = 0; row < ROWS; row++) {
      for (int other = 0; other < ROWS; other++) {
        d = mix(d, parts[row].placeOfAll(parts[other]));
      }
    }
    return mix(d, isSound() ? 1 : 0);
  }

  // ---- what a call needs

  private static boolean isBelow(int number, int many) {
    return number >= 0 && number < many;
  }

  private static void needRow(int row) {
    if (!isBelow(row, ROWS)) {
      throw new IndexOutOfBoundsException("there is no such row");
    }
  }

  private static void needWindow(int window) {
    if (!isBelow(window, WINDOWS)) {
      throw new IndexOutOfBoundsException("there is no such window");
    }
  }

  private static void needCursor(int cursor) {
    if (!isBelow(cursor, CURSORS)) {
      throw new IndexOutOfBoundsException("there is no such cursor");
    }
  }

  private static void needItem(int item) {
    if (item < -GREATEST || item > GREATEST) {
      throw new IllegalArgumentException("an item is from -99 to 99");
    }
  }

  private static void needQuestion(int what, int many) {
    if (!isBelow(what, many)) {
      throw new IllegalArgumentException("there is no such question");
    }
  }

  private void needWhere(int where) {
    if (!isBelow(where, WHERES) || !parts[where].isThere) {
      throw new IndexOutOfBoundsException("there is no such row or window");
    }
  }

  private void needPlace(int where, int place) {
    needWhere(where);
    if (!isBelow(place, parts[where].length)) {
      throw new IndexOutOfBoundsException("there is no such place");
    }
  }

  private void needRoom(int where, int more) {
    if (parts[parts[where].row].length + more > MOST_ITEMS) {
      throw new IllegalStateException("a row has at most 12 items");
    }
  }

  private void needCursorThere(int cursor) {
    needCursor(cursor);
    if (!cursors[cursor].isThere) {
      throw new IllegalStateException("the cursor is not there");
    }
  }

  // ---- changes, and what becomes of windows and cursors

  private void putIn(int where, int place, int item, int doer) {
    spare.length = 0;
    spare.append(item);
    exchangeForSpare(where, place, place);
    settle(where, doer);
  }

  private void takeOut(int where, int from, int to, int doer) {
    spare.length = 0;
    exchangeForSpare(where, from, to);
    settle(where, doer);
  }

  // The callers have looked at the stretch and at the room in the row.
  private void exchangeForSpare(int where, int from, int to) {
    Part row = parts[parts[where].row];
    int begin = parts[where].start + from;
    int end = parts[where].start + to;
    int comes = spare.length;
    System.arraycopy(row.items, end, row.items, begin + comes, row.length - end);
    System.arraycopy(spare.items, 0, row.items, begin, comes);
    for (int holder = 0; holder < WHERES; holder++) {
      if (isHolder(holder, where)) {
        parts[holder].length += comes - (to - from);
      }
    }
  }

  private int becomeSpare(int row) {
    parts[row].becomeLike(spare);
    settle(row, NONE);
    return parts[row].length;
  }

  private int sift(int row, int from, boolean isKeptIfThere) {
    int before = parts[row].length;
    spare.length = 0;
    for (int place = 0; place < before; place++) {
      int item = parts[row].itemAt(place);
      if (parts[from].has(item) == isKeptIfThere) {
        spare.append(item);
      }
    }
    return before - becomeSpare(row);
  }

  // A where that is there has only grounds that are there: a window goes with its ground.
  private boolean isHolder(int holder, int where) {
    int at = where;
    for (int step = 0; step < WHERES && at != NONE; step++) {
      if (at == holder) {
        return true;
      }
      at = parts[at].ground;
    }
    return false;
  }

  // A row holds no window, so that a change in a row leaves none: it also serves where a row
  // becomes another one.
  private void settle(int where, int doer) {
    int row = parts[where].row;
    for (int cursor = 0; cursor < CURSORS; cursor++) {
      if (cursor != doer && parts[cursors[cursor].where].row == row) {
        cursors[cursor].isThere = false;
      }
    }
    for (int window = ROWS; window < WHERES; window++) {
      if (parts[window].row == row && !isHolder(window, where)) {
        parts[window].isThere = false;
      }
    }
  }

  private void dismissWindow(int gone) {
    for (int window = ROWS; window < WHERES; window++) {
      if (parts[window].isThere && isHolder(gone, window)) {
        parts[window].isThere = false;
        dismissCursorsOver(window);
      }
    }
  }

  private void dismissCursorsOver(int where) {
    for (int cursor = 0; cursor < CURSORS; cursor++) {
      if (cursors[cursor].where == where) {
        cursors[cursor].isThere = false;
      }
    }
  }

  // ---- counts

  private int itemsOfRows() {
    int many = 0;
    for (int row = 0; row < ROWS; row++) {
      many += parts[row].length;
    }
    return many;
  }

  private int windowsThere() {
    int many = 0;
    for (int where = ROWS; where < WHERES; where++) {
      many += parts[where].isThere ? 1 : 0;
    }
    return many;
  }

  private int cursorsThere() {
    int many = 0;
    for (int cursor = 0; cursor < CURSORS; cursor++) {
      many += cursors[cursor].isThere ? 1 : 0;
    }
    return many;
  }

  // ---- soundness

  private boolean isRowSound(Part row) {
    return isMoveSound(row, 1)
        && isMoveSound(row, 2)
        && isMoveSound(row, 5)
        && isRiffleSound(row)
        && isTurnSound(row)
        && isOrderSound(row);
  }

  private boolean isMoveSound(Part row, int by) {
    int many = row.length;
    int cut = many == 0 ? 0 : by % many;
    left.becomeLike(row);
    left.moveUp(by, spare);
    right.becomeLike(row);
    right.turn(0, many);
    right.turn(0, cut);
    right.turn(cut, many);
    return left.isLike(right);
  }

  private boolean isRiffleSound(Part row) {
    left.becomeLike(row);
    left.layHalvesTogether(spare);
    left.drawHalvesApart(spare);
    return left.isLike(row);
  }

  private boolean isTurnSound(Part row) {
    left.becomeLike(row);
    left.turn(0, row.length);
    left.turn(0, row.length);
    return left.isLike(row) && left.hashOfItems() == row.hashOfItems();
  }

  private boolean isOrderSound(Part row) {
    left.becomeLike(row);
    left.arrange(FALLING);
    right.becomeLike(row);
    right.arrange(RISING);
    right.turn(0, row.length);
    return left.isLike(right);
  }

  // ---- the checksum

  private static long mix(long d, long v) {
    return d * 31 + v;
  }

  private static long mixItems(long start, Part part) {
    long d = start;
    for (int place = 0; place < part.length; place++) {
      d = mix(d, part.itemAt(place));
    }
    return d;
  }

  private long mixRows(long start) {
    long d = start;
    StringBuilder signs = new StringBuilder();
    for (int row = 0; row < ROWS; row++) {
      d = mix(d, parts[row].length);
      d = mixItems(d, parts[row]);
      d = mix(d, parts[row].hashOfItems());
      signs.setLength(0);
      parts[row].writeTo(signs);
      d = mix(d, signs.length());
    }
    return d;
  }

  private long mixWindows(long start) {
    long d = start;
    for (int window = 0; window < WINDOWS; window++) {
      for (int what = 0; what < WINDOW_QUESTIONS; what++) {
        d = mix(d, ofWindow(window, what));
      }
      if (parts[ROWS + window].isThere) {
        d = mixItems(d, parts[ROWS + window]);
      }
    }
    return d;
  }

  private long mixCursors(long start) {
    long d = start;
    for (int cursor = 0; cursor < CURSORS; cursor++) {
      for (int what = 0; what < CURSOR_QUESTIONS; what++) {
        d = mix(d, ofCursor(cursor, what));
      }
    }
    return d;
  }

  /** A row, or a window: a window has no items of its own, but sees some of its row's. */
  private static final class Part {
    private int[] items;
    private int row;
    private int ground;
    // Counted in the row, not in the ground: a change that a window outlives never moves it,
    // because it happens inside the window.
    private int start;
    private int length;
    private boolean isThere;

    Part(int row, int[] items, boolean isThere) {
      this.row = row;
      this.items = items;
      this.isThere = isThere;
      this.ground = NONE;
    }

    void lookAt(Part other, int where, int from, int to) {
      items = other.items;
      row = other.row;
      ground = where;
      start = other.start + from;
      length = to - from;
      isThere = true;
    }

    boolean isGap(int place) {
      return place >= 0 && place <= length;
    }

    boolean isStretch(int from, int to) {
      return from >= 0 && from <= to && to <= length;
    }

    int itemAt(int place) {
      return items[start + place];
    }

    void putAt(int place, int item) {
      items[start + place] = item;
    }

    int firstItem() {
      return length == 0 ? NO_ITEM : itemAt(0);
    }

    // Only for rows and copies: what a window may hold is for its row to say.
    void append(int item) {
      if (length < MOST_ITEMS) {
        items[length] = item;
        length++;
      }
    }

    void becomeLike(Part other) {
      length = other.length;
      System.arraycopy(other.items, other.start, items, start, length);
    }

    void exchangeTwo(int one, int other) {
      int item = itemAt(one);
      putAt(one, itemAt(other));
      putAt(other, item);
    }

    void turn(int from, int to) {
      int other = to - 1;
      for (int one = from; one < other; one++) {
        exchangeTwo(one, other);
        other--;
      }
    }

    void moveUp(int by, Part before) {
      if (length == 0) {
        return;
      }
      before.becomeLike(this);
      for (int place = 0; place < length; place++) {
        putAt(Math.floorMod(place + by, length), before.itemAt(place));
      }
    }

    void layHalvesTogether(Part before) {
      before.becomeLike(this);
      int half = (length + 1) / 2;
      for (int place = 0; place < length; place++) {
        int from = place % 2 == 0 ? place / 2 : half + place / 2;
        putAt(place, before.itemAt(from));
      }
    }

    void drawHalvesApart(Part before) {
      before.becomeLike(this);
      int half = (length + 1) / 2;
      for (int place = 0; place < length; place++) {
        int to = place % 2 == 0 ? place / 2 : half + place / 2;
        putAt(to, before.itemAt(place));
      }
    }

    // By insertion, because items that are alike in the order must keep their sequence.
    void arrange(int by) {
      for (int end = 1; end < length; end++) {
        int item = itemAt(end);
        int place = end;
        while (place > 0 && rank(by, itemAt(place - 1)) > rank(by, item)) {
          putAt(place, itemAt(place - 1));
          place--;
        }
        putAt(place, item);
      }
    }

    private static int rank(int by, int item) {
      switch (by) {
        case FALLING:
          return -item;
        case LEFT_BY_TEN:
          return Math.floorMod(item, 10);
        case BELOW_ZERO_FIRST:
          return item < 0 ? 0 : 1;
        default:
          return item;
      }
    }

    int firstPlaceOf(int item) {
      for (int place = 0; place < length; place++) {
        if (itemAt(place) == item) {
          return place;
        }
      }
      return NONE;
    }

    boolean has(int item) {
      return firstPlaceOf(item) != NONE;
    }

    private boolean standsAt(int place, Part other) {
      for (int i = 0; i < other.length; i++) {
        if (itemAt(place + i) != other.itemAt(i)) {
          return false;
        }
      }
      return true;
    }

    int placeOfAll(Part other) {
      for (int place = 0; place + other.length <= length; place++) {
        if (standsAt(place, other)) {
          return place;
        }
      }
      return NONE;
    }

    boolean isLike(Part other) {
      return length == other.length && standsAt(0, other);
    }

    int hashOfItems() {
      int h = 1;
      for (int place = 0; place < length; place++) {
        h = 31 * h + itemAt(place);
      }
      return h;
    }

    void writeTo(StringBuilder signs) {
      signs.append('[');
      for (int place = 0; place < length; place++) {
        if (place > 0) {
          signs.append(", ");
        }
        signs.append(itemAt(place));
      }
      signs.append(']');
    }
  }

  /** It stands between the items of a where. */
  private static final class Cursor {
    private int where;
    private int index;
    // A place and no item: what comes to stand there is the last one then.
    private int last;
    private boolean isThere;

    Cursor() {
      last = NONE;
    }

    void beginAt(int over, int place) {
      where = over;
      index = place;
      last = NONE;
      isThere = true;
    }

    int goForth(Part over) {
      if (index >= over.length) {
        return NO_ITEM;
      }
      last = index;
      index++;
      return over.itemAt(last);
    }

    int goBack(Part over) {
      if (index <= 0) {
        return NO_ITEM;
      }
      index--;
      last = index;
      return over.itemAt(last);
    }
  }
}
