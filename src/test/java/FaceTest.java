import java.io.IOException;
import java.lang.reflect.Field;
import java.lang.reflect.Method;
import java.lang.reflect.Modifier;
import java.nio.charset.StandardCharsets;
import java.nio.file.Files;
import java.nio.file.Path;
import java.util.ArrayList;
import java.util.List;
import java.util.Set;
import java.util.TreeSet;
import java.util.regex.Matcher;
import java.util.regex.Pattern;

/** The public face, as the document writes it, and the rules of LANGUAGE.md that can be looked up. */
public final class FaceTest {
  private static final Path DOC = Path.of("../shared/DOC.md");
  private static final Path SOURCE = Path.of("src/main/java/Splicemonoid.java");
  private static final Pattern SIGNATURE =
      Pattern.compile("^    public (\\w+) (\\w+)\\(([^)]*)\\)(?: throws ([^;]*))?;$");
  private static final String[] FORBIDDEN = {
    "\\bimport\\b", "\\bpackage\\b", "->", "::", "\\bsynchronized\\b", "\\bassert\\b", "\\bfinally\\b",
    "\\bcatch\\b", "\\btry\\b", "\\bSystem\\.(?!arraycopy)", "Exact\\(", "\\bString\\.format",
    "\\bvar\\b", "\\bdouble\\b", "\\bfloat\\b", "\\bstatic (?!final |class |int |long |boolean |void )"
  };

  public static void main(String[] args) throws IOException {
    Due.is("the methods of the face", FaceTest::methods, documented());
    Due.is("the constructors", () -> constructors(), "[public ()]");
    Due.is("the class", () -> Modifier.toString(Splicemonoid.class.getModifiers()), "public final");
    Due.is("no field is seen from outside", FaceTest::openFields, "[]");
    Due.is("no private method is named as a public one", FaceTest::sharedNames, "[]");
    Due.is("inner classes are static", FaceTest::boundClasses, "[]");
    String code = withoutTexts(Files.readString(SOURCE, StandardCharsets.UTF_8));
    for (String word : FORBIDDEN) {
      Due.is("the source without " + word, () -> found(word, code), "[]");
    }
    Due.end("FaceTest");
  }

  private static String documented() throws IOException {
    Set<String> lines = new TreeSet<>();
    for (String line : Files.readAllLines(DOC, StandardCharsets.UTF_8)) {
      Matcher m = SIGNATURE.matcher(line);
      if (m.matches()) {
        List<String> types = new ArrayList<>();
        for (String parameter : m.group(3).split(", ")) {
          if (!parameter.isEmpty()) {
            types.add(parameter.substring(0, parameter.indexOf(' ')));
          }
        }
        List<String> thrown = m.group(4) == null ? List.of() : List.of(m.group(4).split(", "));
        lines.add("public " + m.group(1) + " " + m.group(2) + types + thrown);
      }
    }
    return String.join("\n", lines);
  }

  private static String methods() {
    Set<String> lines = new TreeSet<>();
    for (Method method : Splicemonoid.class.getDeclaredMethods()) {
      if (!Modifier.isPrivate(method.getModifiers()) && !method.isSynthetic()) {
        lines.add(
            Modifier.toString(method.getModifiers()) + " " + method.getReturnType().getSimpleName()
                + " " + method.getName() + names(method.getParameterTypes())
                + names(method.getExceptionTypes()));
      }
    }
    return String.join("\n", lines);
  }

  private static List<String> names(Class<?>[] types) {
    List<String> names = new ArrayList<>();
    for (Class<?> type : types) {
      names.add(type.getSimpleName());
    }
    return names;
  }

  private static String constructors() {
    List<String> lines = new ArrayList<>();
    for (var constructor : Splicemonoid.class.getDeclaredConstructors()) {
      String types = String.join(", ", names(constructor.getParameterTypes()));
      lines.add(Modifier.toString(constructor.getModifiers()) + " (" + types + ")");
    }
    return lines.toString();
  }

  private static String openFields() {
    List<String> names = new ArrayList<>();
    for (Field field : Splicemonoid.class.getDeclaredFields()) {
      int modifiers = field.getModifiers();
      boolean isChangeable = Modifier.isStatic(modifiers) && !Modifier.isFinal(modifiers);
      if (!Modifier.isPrivate(modifiers) || isChangeable) {
        names.add(field.getName());
      }
    }
    return names.toString();
  }

  private static String sharedNames() {
    Set<String> open = new TreeSet<>();
    Set<String> own = new TreeSet<>();
    for (Method method : Splicemonoid.class.getDeclaredMethods()) {
      (Modifier.isPublic(method.getModifiers()) ? open : own).add(method.getName());
    }
    for (Class<?> inside : Splicemonoid.class.getDeclaredClasses()) {
      for (Method method : inside.getDeclaredMethods()) {
        own.add(method.getName());
      }
    }
    own.retainAll(open);
    return own.toString();
  }

  private static String boundClasses() {
    List<String> names = new ArrayList<>();
    for (Class<?> inside : Splicemonoid.class.getDeclaredClasses()) {
      int modifiers = inside.getModifiers();
      if (!Modifier.isStatic(modifiers) || Modifier.isPublic(modifiers)) {
        names.add(inside.getSimpleName());
      }
    }
    return names.toString();
  }

  private static String withoutTexts(String source) {
    return source
        .replaceAll("(?s)/\\*.*?\\*/", "")
        .replaceAll("\"[^\"\\n]*\"", "\"\"")
        .replaceAll("//[^\\n]*", "");
  }

  private static String found(String word, String code) {
    List<String> hits = new ArrayList<>();
    Matcher m = Pattern.compile(word).matcher(code);
    while (m.find()) {
      hits.add(m.group());
    }
    return hits.toString();
  }
}
