import java.util.ArrayList;
import java.util.List;

/**
 * The tests of one promise's boundary cases, each under the very words of the document that it
 * holds the class against. Words that the document has not, and a boundary case without a test, are
 * told as not due.
 */
final class Edges {
  interface Test {
    void run();
  }

  private static final List<Integer> COVERED = new ArrayList<>();

  private final int promise;
  private final List<String> sentences;
  private final List<String> tested = new ArrayList<>();

  private Edges(int promise) {
    this.promise = promise;
    this.sentences = Doc.sentences(promise);
  }

  static Edges ofDescription() {
    return new Edges(0);
  }

  static Edges of(int promise) {
    return new Edges(promise);
  }

  Edges edge(String sentence, Test test) {
    Due.under((promise == 0 ? "Description" : "Promise " + promise) + ": " + sentence);
    Due.is("the document says it", () -> sentences.contains(sentence), true);
    tested.add(sentence);
    int before = Due.looked();
    test.run();
    int after = Due.looked();
    Due.is("something was looked at", () -> after > before, true);
    Due.under("");
    return this;
  }

  Edges bounds(String condition, Test test) {
    return edge("Throws `IndexOutOfBoundsException` if " + condition, test);
  }

  Edges argument(String condition, Test test) {
    return edge("Throws `IllegalArgumentException` if " + condition, test);
  }

  Edges state(String condition, Test test) {
    return edge("Throws `IllegalStateException` if " + condition, test);
  }

  /** Looks whether each sentence of the promise that names a boundary case has had its test. */
  void all() {
    COVERED.add(promise);
    for (String sentence : sentences) {
      if (Doc.isEdge(sentence)) {
        Due.is(
            "Promise " + promise + " has a test of: " + sentence,
            () -> tested.contains(sentence),
            true);
      }
    }
  }

  /** Ends a test that is to cover the promises from one up to another one. */
  static void end(String test, int first, int last) {
    for (int i = first; i <= last; i++) {
      int number = i;
      Due.is("promise " + number + " is covered", () -> COVERED.contains(number), true);
    }
    Due.end(test);
  }
}
