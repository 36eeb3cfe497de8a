/** Promises 47 to 50: the whole. */
public final class WholeTest {
  public static void main(String[] args) {
    promise47House();
    promise48Knock();
    promise49IsSound();
    promise50DigestOfNew();
    promise50DigestSeesAll();
    Due.end("WholeTest");
  }

  private static Splicemonoid furnished() {
    Splicemonoid x = Due.rows(Due.row(3, 1, 2, 1), Due.row(), Due.row(-99), Due.row(1, 2));
    x.window(0, 0, 1, 4);
    x.window(2, 4, 0, 2);
    x.window(3, 1, 0, 0);
    // One that was there has left nothing behind.
    x.window(1, 3, 0, 2);
    x.close(1);
    x.open(0, 6, 1);
    x.open(2, 2, 1);
    return x;
  }

  private static void promise47House() {
    Splicemonoid x = furnished();
    x.knock();
    Due.is("items", () -> x.house(0), 7);
    Due.is("windows", () -> x.house(1), 3);
    Due.is("cursors", () -> x.house(2), 2);
    Due.is("knocks", () -> x.house(3), 1);
    Due.isAndLeavesAll("what 4", x, () -> x.house(4), Due.ARGUMENT);
    Due.isAndLeavesAll("what -1", x, () -> x.house(-1), Due.ARGUMENT);
  }

  private static void promise48Knock() {
    Splicemonoid x = new Splicemonoid();
    Due.is("knock", x::knock, 1);
    Due.is("knock", x::knock, 2);
    Due.is("knock", x::knock, 3);
    Due.is("knocks", () -> x.house(3), 3);
    Due.is("another object", () -> new Splicemonoid().knock(), 1);
  }

  private static void promise49IsSound() {
    Due.is("a new one", () -> new Splicemonoid().isSound(), true);
    Splicemonoid x = furnished();
    long before = x.digest();
    Due.is("isSound", x::isSound, true);
    Due.is("it changes nothing", x::digest, before);
    Splicemonoid full = new Splicemonoid();
    full.places(0, 12);
    full.places(1, 5);
    full.places(2, 1);
    Due.is("of 12, 5, 1", full::isSound, true);
  }

  private static long with(long d, long... values) {
    long sum = d;
    for (long v : values) {
      sum = sum * 31 + v;
    }
    return sum;
  }

  private static void promise50DigestOfNew() {
    long d = with(7807, 0, 0, 0, 0);
    for (int row = 0; row < 4; row++) {
      d = with(d, 0, 1, 2);
    }
    for (int i = 0; i < 4 * 3 + 3 * 5; i++) {
      d = with(d, -1);
    }
    for (int i = 0; i < 16; i++) {
      d = with(d, 0);
    }
    Due.is("digest of a new one", new Splicemonoid()::digest, with(d, 1));
  }

  /** Written out by hand from furnished(), with one knock. */
  private static void promise50DigestSeesAll() {
    Splicemonoid x = furnished();
    x.knock();
    long d = with(7807, 7, 3, 2, 1);
    d = with(d, 4, 3, 1, 2, 1, x.hash(0), "[3, 1, 2, 1]".length());
    d = with(d, 0, 1, 2);
    d = with(d, 1, -99, 31 - 99, "[-99]".length());
    d = with(d, 2, 1, 2, 994, "[1, 2]".length());
    d = with(d, 0, 0, 3, 1, 2, 1);
    d = with(d, -1, -1, -1);
    d = with(d, 4, 0, 2, 1, 2);
    d = with(d, 1, 1, 0);
    d = with(d, 6, 1, 0, 1, 1);
    d = with(d, -1, -1, -1, -1, -1);
    d = with(d, 2, 1, 0, 0, 1);
    d = with(d, 0, 0, -1, 1);
    d = with(d, -1, 0, -1, -1);
    d = with(d, -1, 0, 0, -1);
    d = with(d, -1, 0, -1, 0);
    Due.is("digest", x::digest, with(d, 1));
    Due.is("digest again", x::digest, with(d, 1));
  }
}
