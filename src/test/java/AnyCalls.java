import java.lang.reflect.InvocationTargetException;
import java.lang.reflect.Method;
import java.util.ArrayList;
import java.util.Comparator;
import java.util.List;

/**
 * LANGUAGE.md, rules 7 and 13: whatever calls come, with whatever numbers, in whatever state, far beyond
 * 512 of them and beyond DAY 999, none throws and each ends; the same calls give the same answers, also
 * with another object used between them.
 */
public final class AnyCalls {
  private static final String[] TEXTS = {"ship 5;man 4 33;man 3 9;reader 3;reader 5;noon 0 1;deed 0 90;fog 1 0 1;",
      "ship9;man0 90;man1 0;man2 10;man3 5;man4 60;man5 88;reader1;reader2;reader4;noon2 5 4 3;", "ship 0;", "ship 5;man 0 0;x"};

  private static long chance = 20261120L;
  private static int wrong = 0;

  private static int any(int below) {
    chance = chance * 6364136223846793005L + 1442695040888963407L;
    return (int) ((chance >>> 33) % below);
  }

  /** Small ones mostly, also ones far away. */
  private static int number() {
    switch (any(10)) {
      case 0: return any(4) == 0 ? Integer.MIN_VALUE + any(3) : -any(4);
      case 1: return any(4) == 0 ? Integer.MAX_VALUE - any(3) : any(200);
      case 2: return any(1000000);
      case 3: return any(100);
      case 4: return any(64);
      default: return any(7);
    }
  }

  private static Method[] calls() {
    List<Method> calls = new ArrayList<>();
    for (Method m : ShameAngles.class.getDeclaredMethods()) {
      if (java.lang.reflect.Modifier.isPublic(m.getModifiers())) calls.add(m);
    }
    calls.sort(Comparator.comparing(Method::getName));
    return calls.toArray(new Method[0]);
  }

  private static Object answer(Method call, ShameAngles x, Object[] numbers) throws IllegalAccessException {
    try {
      return call.invoke(x, numbers);
    } catch (InvocationTargetException e) {
      wrong++;
      System.out.println(call.getName() + List.of(numbers) + " threw " + e.getCause());
      return "";
    }
  }

  private static void type(ShameAngles x, String text) {
    x.clear();
    for (int k = 0; k < text.length(); k++) x.type(text.charAt(k));
  }

  private static void both(Method call, ShameAngles x, ShameAngles twin) throws IllegalAccessException {
    Object[] numbers = new Object[call.getParameterCount()];
    for (int k = 0; k < numbers.length; k++) numbers[k] = number();
    Object got = answer(call, x, numbers);
    Object want = answer(call, twin, numbers);
    if (!got.equals(want)) {
      wrong++;
      System.out.println(call.getName() + List.of(numbers) + " answered " + got + ", and by a twin " + want);
    }
  }

  private static void run(Method[] calls, int many, boolean sails) throws IllegalAccessException {
    ShameAngles x = new ShameAngles();
    ShameAngles twin = new ShameAngles();
    for (int k = 0; k < many; k++) {
      Method call = calls[any(calls.length)];
      // a COURSE, a TEXT or an IMAGE would begin anew at DAY 0 too often
      boolean anew = call.getName().equals("ship") || call.getName().equals("read") || call.getName().equals("from");
      if (anew && any(sails ? 40 : 12) != 0) continue;
      if (any(200) == 0) {
        String text = TEXTS[any(TEXTS.length)];
        type(x, text);
        type(twin, text);
      }
      both(call, x, twin);
      if (sails && x.count(1) > 0) {
        x.noon(0, 0);
        twin.noon(0, 0);
      }
    }
    if (x.digest() != twin.digest()) {
      wrong++;
      System.out.println("two objects with the same calls are unlike behind " + many);
    }
  }

  /** At the last DAY, with all there, each call once more with many numbers. */
  private static void runAtTheLastDay(Method[] calls) throws IllegalAccessException {
    ShameAngles x = new ShameAngles();
    ShameAngles twin = new ShameAngles();
    for (ShameAngles s : new ShameAngles[] {x, twin}) {
      type(s, TEXTS[1]);
      s.read();
      while (s.count(2) < 999) s.noon(5, 2);
      s.image(0);
      s.image(1);
    }
    for (int k = 0; k < 4000; k++) {
      both(calls[any(calls.length)], x, twin);
      if (any(10) == 0) {
        x.from(0);
        twin.from(0);
      }
    }
  }

  public static void main(String[] args) throws IllegalAccessException {
    Method[] calls = calls();
    for (int k = 0; k < 60; k++) run(calls, 3000, k % 2 == 0);
    runAtTheLastDay(calls);
    System.out.println(wrong == 0 ? "none threw, and twins answer alike" : wrong + " wrong");
    if (wrong != 0) System.exit(1);
  }
}
