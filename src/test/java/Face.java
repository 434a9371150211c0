import java.lang.reflect.Constructor;
import java.lang.reflect.Field;
import java.lang.reflect.Method;
import java.lang.reflect.Modifier;
import java.util.Set;
import java.util.TreeSet;

/** The public face is the document's, and nothing of the class but it can be seen from outside. */
public final class Face {
  private static final String[] METHODS = {
    "int ship(int)", "int fog(int,int)", "int man(int,int)", "int reader(int)", "int type(int)", "int clear()",
    "int read()", "int noon(int,int)", "int deed(int,int)", "int undo()", "int now(int)", "int of(int,int)",
    "int angle(int)", "int reads(int,int)", "int error(int,int)", "int off()", "int then(int,int,int)",
    "int when(int,int)", "int best(int,int,int)", "int fewest(int,int)", "int cape(int,int,int)",
    "int watch(int)", "int mutiny(int)", "int seen(int,int,int)", "int began(int,int)",
    "int note(int,int,int,int)", "int mark(int,int,int,int)", "int forget(int)", "int is(int)", "int look(int)",
    "int kinds(int)", "int ask(int)", "int officers(int,int)", "int slips(int,int,int)", "int voyages(int,int)",
    "long part(int)", "int image(int)", "int from(int)", "int status(int)", "int count(int)", "long digest()"
  };
  private static final String[] FIELDS = {"BAD=-2", "FULL=-4", "NO=-3", "NONE=-1"};

  private static int wrong = 0;

  private static void check(String what, Object got, Object want) {
    if (!got.equals(want)) {
      wrong++;
      System.out.println(what + " is " + got + ", due is " + want);
    }
  }

  private static String signature(Method m) {
    StringBuilder s = new StringBuilder(m.getReturnType().getName() + " " + m.getName() + "(");
    for (Class<?> p : m.getParameterTypes()) {
      s.append(s.charAt(s.length() - 1) == '(' ? "" : ",").append(p.getName());
    }
    return s.append(")").toString();
  }

  public static void main(String[] args) throws IllegalAccessException {
    Class<?> face = ShameAngles.class;
    check("the class public and final", Modifier.toString(face.getModifiers()), "public final");
    Set<String> methods = new TreeSet<>();
    Set<String> names = new TreeSet<>();
    for (Method m : face.getDeclaredMethods()) {
      if (Modifier.isPublic(m.getModifiers())) {
        methods.add(signature(m));
        names.add(m.getName());
      }
    }
    check("the public methods", methods, new TreeSet<>(Set.of(METHODS)));
    Set<String> fields = new TreeSet<>();
    for (Field f : face.getDeclaredFields()) {
      if (Modifier.isPublic(f.getModifiers())) {
        check("modifiers of " + f.getName(), Modifier.toString(f.getModifiers()), "public static final");
        fields.add(f.getName() + "=" + f.getInt(null));
      } else {
        check(f.getName() + " private", Modifier.isPrivate(f.getModifiers()), true);
        check(f.getName() + " final if static", !Modifier.isStatic(f.getModifiers())
            || Modifier.isFinal(f.getModifiers()), true);
      }
    }
    check("the public constants", fields, new TreeSet<>(Set.of(FIELDS)));
    Constructor<?>[] constructors = face.getDeclaredConstructors();
    check("constructors", constructors.length, 1);
    check("the constructor's numbers", constructors[0].getParameterCount(), 0);
    check("the constructor public", Modifier.isPublic(constructors[0].getModifiers()), true);
    for (Method m : face.getDeclaredMethods()) {
      if (!Modifier.isPublic(m.getModifiers())) {
        check(m.getName() + " private", Modifier.isPrivate(m.getModifiers()), true);
        check(m.getName() + " named as a public one", names.contains(m.getName()), false);
      }
    }
    for (Class<?> inside : face.getDeclaredClasses()) {
      check(inside.getName() + " static", Modifier.isStatic(inside.getModifiers()), true);
      check(inside.getName() + " not public", Modifier.isPublic(inside.getModifiers()), false);
      for (Method m : inside.getDeclaredMethods()) {
        check(inside.getName() + "." + m.getName() + " named as a public one", names.contains(m.getName()), false);
      }
    }
    System.out.println(wrong == 0 ? "the face is as due" : wrong + " wrong");
    if (wrong != 0) System.exit(1);
  }
}
