import java.io.IOException;
import java.io.UncheckedIOException;
import java.nio.charset.StandardCharsets;
import java.nio.file.Files;
import java.nio.file.Path;
import java.util.ArrayList;
import java.util.List;
import java.util.regex.Pattern;

/** The sentences of the document, so that a test can name the one that it looks at. */
final class Doc {
  private static final Path FILE = Path.of("../shared/DOC.md");

  // How the document speaks of what is too small or too large, empty, full, refused or gone.
  private static final Pattern EDGE =
      Pattern.compile(
          "^Throws |REFUSED|NONE|LAST|CHANGE|GONE|HOLDER|\\b100\\b|nothing|otherwise|without"
              + "|at most|at first|-99 to 99|0 to 3 a ROW|not in it|or the ROW|wraps around"
              + "|likewise|the same|below 0|three reversals|at the beginning|behind all"
              + "|behind the last|ahead of th|stands behind|no number|how often ever|named first"
              + "|if there|is there|becomes another");

  private Doc() {
  }

  static List<String> lines() {
    try {
      return Files.readAllLines(FILE, StandardCharsets.UTF_8);
    } catch (IOException e) {
      throw new UncheckedIOException(e);
    }
  }

  /** The sentences of a promise, and what stands between semicolons; 0 is the description. */
  static List<String> sentences(int promise) {
    List<String> sentences = new ArrayList<>();
    for (String line : section(promise)) {
      for (String part : line.split("(?<=[.;]) ")) {
        sentences.add(part.replaceAll("[.;]$", ""));
      }
    }
    return sentences;
  }

  static boolean isEdge(String sentence) {
    return EDGE.matcher(sentence).find();
  }

  private static List<String> section(int promise) {
    String heading = promise == 0 ? "## Description" : "## Promise " + promise + ":";
    List<String> lines = new ArrayList<>();
    boolean isInside = false;
    for (String line : lines()) {
      if (line.startsWith("## ")) {
        isInside = line.startsWith(heading);
      } else if (isInside && !line.startsWith("`")) {
        lines.add(line.strip().replaceAll("^- ", ""));
      }
    }
    return lines;
  }
}
