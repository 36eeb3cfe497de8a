import java.lang.reflect.InvocationTargetException;
import java.lang.reflect.Method;
import java.lang.reflect.Modifier;
import java.util.ArrayList;
import java.util.Comparator;
import java.util.List;

/**
 * All promises together: long runs of calls, each held against Model. The calls come from a counter
 * that is stirred, so that every run of this test makes the same ones.
 */
public final class ModelTest {
  private static final int RUNS = 3000;
  // With a digest behind each call these are the 512 calls that an object serves.
  private static final int CALLS = 256;
  private static final int[] WILD = {
    Integer.MIN_VALUE, Integer.MAX_VALUE, -100, 100, -99, 99, -1, 12, 13, 8, 4, 3
  };

  private static long seed = 20261118L;

  private static int below(int bound) {
    seed = seed * 6364136223846793005L + 1442695040888963407L;
    return (int) ((seed >>> 33) % bound);
  }

  public static void main(String[] args) throws ReflectiveOperationException {
    List<Method> methods = new ArrayList<>();
    for (Method method : Splicemonoid.class.getDeclaredMethods()) {
      if (Modifier.isPublic(method.getModifiers())) {
        methods.add(method);
      }
    }
    // Reflection tells them in no sequence that is promised.
    methods.sort(Comparator.comparing(Method::getName));
    int[] answered = new int[methods.size()];
    int[] thrown = new int[methods.size()];
    for (int run = 0; run < RUNS; run++) {
      if (!isRunAsDue(run, methods, answered, thrown)) {
        break;
      }
    }
    for (int i = 0; i < methods.size(); i++) {
      int at = i;
      Method method = methods.get(at);
      Due.is(method.getName() + " was answered", () -> answered[at] > 0, true);
      if (method.getExceptionTypes().length > 0) {
        Due.is(method.getName() + " threw", () -> thrown[at] > 0, true);
      }
    }
    Due.end("ModelTest");
  }

  private static boolean isRunAsDue(int run, List<Method> methods, int[] answered, int[] thrown)
      throws ReflectiveOperationException {
    Splicemonoid subject = new Splicemonoid();
    Model model = new Model();
    StringBuilder calls = new StringBuilder();
    for (int call = 0; call < CALLS; call++) {
      int at = call == 0 ? below(methods.size()) : favoured(methods);
      Method method = methods.get(at);
      Object[] arguments = arguments(method, run % 10 == 0 ? 5 : 60);
      calls.append("\n  ").append(method.getName()).append(List.of(arguments));
      String want = told(twin(method), model, arguments);
      String got = told(method, subject, arguments);
      (want.startsWith("throws.") ? thrown : answered)[at]++;
      boolean isDue = got.equals(want) && subject.digest() == model.digest();
      if (!isDue) {
        Due.is("run " + run + ":" + calls + "\n  then the digest", subject::digest, model.digest());
        Due.is("the last of these calls", () -> got, want);
        return false;
      }
    }
    return true;
  }

  /** Rows soon empty, and windows and cursors are soon gone: what makes them is called more often. */
  private static int favoured(List<Method> methods) {
    String[] names = {"window", "window", "open", "next", "previous", "put", "add", "insert", "set"};
    if (below(3) == 0) {
      String name = names[below(names.length)];
      for (int i = 0; i < methods.size(); i++) {
        if (methods.get(i).getName().equals(name)) {
          return i;
        }
      }
    }
    return below(methods.size());
  }

  private static Object[] arguments(Method method, int tame) {
    Class<?>[] types = method.getParameterTypes();
    Object[] arguments = new Object[types.length];
    for (int i = 0; i < types.length; i++) {
      arguments[i] = types[i] == boolean.class ? (Object) (below(2) == 0) : (Object) number(i, tame);
    }
    return arguments;
  }

  private static int number(int position, int tame) {
    if (below(tame) == 0) {
      return WILD[below(WILD.length)];
    }
    if (position == 0) {
      return below(4) == 0 ? below(8) : below(3);
    }
    return below(4) == 0 ? below(40) - 20 : below(8);
  }

  private static Method twin(Method method) throws ReflectiveOperationException {
    return Model.class.getDeclaredMethod(method.getName(), method.getParameterTypes());
  }

  private static String told(Method method, Object object, Object[] arguments)
      throws ReflectiveOperationException {
    try {
      return String.valueOf(method.invoke(object, arguments));
    } catch (InvocationTargetException e) {
      return "throws." + e.getCause().getClass().getSimpleName();
    }
  }
}
