import java.lang.reflect.InvocationTargetException;
import java.lang.reflect.Method;
import java.lang.reflect.Modifier;
import java.util.ArrayList;
import java.util.Arrays;
import java.util.Comparator;
import java.util.List;
import java.util.Random;

/**
 * Any calls with any arguments, far beyond 512 on one object: nothing reaches the caller but what the throws clause of
 * the call names, thrown by the class itself, and a call that throws takes nothing from the pile.
 */
public final class AnyCallTest {
  private static final int OBJECTS = 60;
  private static final int CALLS = 6000;
  private static final int[] NUMBERS = {Integer.MIN_VALUE, -1000, -999, -2, -1, 0, 1, 2, 3, 4, 5, 6, 7, 8, 9, 10, 11, 12,
      19, 20, 21, 24, 60, 71, 72, 99, 100, 333, 334, 500, 666, 667, 998, 999, 1000, 100000, Integer.MAX_VALUE};

  private static List<Method> face() {
    List<Method> all = new ArrayList<>();
    for (Method method : Shardmoor.class.getDeclaredMethods()) {
      if (Modifier.isPublic(method.getModifiers())) {
        all.add(method);
      }
    }
    all.sort(Comparator.comparing(Method::getName));
    return all;
  }

  private static Object[] arguments(Random random, Method method, boolean isNear) {
    Object[] args = new Object[method.getParameterCount()];
    for (int i = 0; i < args.length; i++) {
      int number = isNear ? random.nextInt(method.getName().equals("number") ? 999 : 7)
          : NUMBERS[random.nextInt(NUMBERS.length)];
      args[i] = method.getParameterTypes()[i] == boolean.class ? (Object) random.nextBoolean() : (Object) number;
    }
    return args;
  }

  /** Whether an exception is one that the call names, and thrown by a throw statement of the class. */
  private static boolean isNamed(Method method, Throwable thrown) {
    boolean isListed = Arrays.asList(method.getExceptionTypes()).contains(thrown.getClass());
    StackTraceElement[] trace = thrown.getStackTrace();
    return isListed && (trace.length == 0 || trace[0].getClassName().equals("Shardmoor"));
  }

  /** Calls that lead to many documents, of which most calls need some. */
  private static void fill(Shardmoor x, Random random) {
    for (int i = 0; i < 70; i++) {
      try {
        x.object();
        x.number(random.nextInt(1000));
        x.give(0);
        x.row();
        for (int j = random.nextInt(25); j > 0; j--) {
          x.number(j);
          x.add();
        }
        x.give(1);
        x.insert(0, random.nextInt(100));
      } catch (IllegalStateException e) {
        x.drop();
      }
    }
  }

  public static void main(String[] args) throws IllegalAccessException {
    List<Method> face = face();
    for (int object = 0; object < OBJECTS; object++) {
      Random random = new Random(object);
      Shardmoor x = new Shardmoor();
      for (int call = 0; call < CALLS; call++) {
        if (call % 3000 == 1500) {
          fill(x, random);
        }
        Method method = face.get(random.nextInt(face.size()));
        if (random.nextInt(object % 2 == 0 ? 2 : 20) > 0 && (method.getName().equals("drop")
            || method.getName().equals("tick") || method.getName().equals("rule"))) {
          continue;
        }
        Object[] arguments = arguments(random, method, random.nextInt(4) > 0);
        try {
          method.invoke(x, arguments);
        } catch (InvocationTargetException e) {
          if (!isNamed(method, e.getCause())) {
            System.out.println("object " + object + ", call " + call + ": " + method.getName()
                + Arrays.toString(arguments) + " threw " + e.getCause());
            e.getCause().printStackTrace(System.out);
            System.exit(1);
          }
        }
      }
    }
    manyPlansAndEntries();
    System.out.println("no call threw but what it names");
  }

  /** More plans and entries than one object may keep: what is answered then is free, but nothing is thrown. */
  private static void manyPlansAndEntries() {
    Shardmoor x = new Shardmoor();
    x.object();
    x.insert(0, 0);
    for (int i = 0; i < 3000; i++) {
      x.clear();
      for (int j = 0; j < 3; j++) {
        x.nothing();
        x.filter((i / (j * 70 + 1)) % 72, i % 4);
      }
      x.find(0);
      x.number(i % 900);
      x.update(0, 0, 0, 0);
    }
    for (int what = 0; what < 5; what++) {
      x.plan(what);
    }
    x.next(2000);
  }
}
