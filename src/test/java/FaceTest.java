import java.lang.reflect.Constructor;
import java.lang.reflect.Field;
import java.lang.reflect.Method;
import java.lang.reflect.Modifier;
import java.util.Arrays;
import java.util.Map;
import java.util.Set;
import java.util.TreeMap;
import java.util.TreeSet;

/** The public face: each constant, constructor and method of the document, and nothing more. */
public final class FaceTest {
  private static final Due due = new Due();

  private static final String METHODS = "act4 apart4 bought2 can2 clear0 copy5 count1 cover4 cue3 does2 doubt2 drop1 eyes5 fits1 "
      + "habit2 heed2 house0 image0 item4 leave1 odds4 often1 point2 pull4 quiet2 restore0 routine0 sees2 sheet3 shown1 "
      + "stances0 stand1 told2 type2 warning0 watcher2";

  public static void main(String[] args) throws ReflectiveOperationException {
    Class<?> face = CoinNotThere.class;
    due.is("public and final", face.getModifiers() & (Modifier.PUBLIC | Modifier.FINAL), Modifier.PUBLIC | Modifier.FINAL);
    constants(face);
    methods(face);
    Constructor<?>[] made = face.getDeclaredConstructors();
    due.is("one constructor", made.length, 1);
    due.is("public, without arguments", made[0].getParameterCount() + (Modifier.isPublic(made[0].getModifiers()) ? 0 : 1), 0);
    for (Class<?> inside : face.getDeclaredClasses()) {
      int m = inside.getModifiers();
      due.is(inside + " is static, not public", Modifier.isStatic(m) && !Modifier.isPublic(m) && !Modifier.isProtected(m) ? 1 : 0, 1);
      namesOf(inside);
    }
    due.end();
  }

  private static void constants(Class<?> face) throws ReflectiveOperationException {
    Map<String, Integer> want = new TreeMap<>(Map.of("BAD", -1, "NOT", -2, "FULL", -3, "NONE", -4, "NULL", -11, "CAST", -12,
        "INDEX", -13, "SIZE", -14));
    Map<String, Integer> got = new TreeMap<>();
    for (Field f : face.getDeclaredFields()) {
      int m = f.getModifiers();
      if (Modifier.isPrivate(m)) continue;
      due.is(f + " is a public constant", m, Modifier.PUBLIC | Modifier.STATIC | Modifier.FINAL);
      got.put(f.getName(), f.getInt(null));
    }
    due.is("constants " + got, got.equals(want) ? 1 : 0, 1);
  }

  private static void methods(Class<?> face) {
    Set<String> got = new TreeSet<>();
    for (Method m : face.getDeclaredMethods()) {
      if (Modifier.isPrivate(m.getModifiers())) continue;
      due.is(m + " is public, answers an int", Modifier.isPublic(m.getModifiers()) && m.getReturnType() == int.class ? 1 : 0, 1);
      for (int i = 0; i < m.getParameterCount(); i++) {
        boolean isLong = m.getName().equals("type") && i == 0;
        due.is(m + ", argument " + i, m.getParameterTypes()[i] == (isLong ? long.class : int.class) ? 1 : 0, 1);
      }
      got.add(m.getName() + m.getParameterCount());
    }
    due.is("methods " + got, got.equals(new TreeSet<>(Arrays.asList(METHODS.split(" ")))) ? 1 : 0, 1);
  }

  /** No method inside bears the name of a public one. */
  private static void namesOf(Class<?> inside) {
    for (Method m : inside.getDeclaredMethods()) {
      due.is(m + " has a name of its own", (" " + METHODS).matches(".* " + m.getName() + "\\d.*") ? 1 : 0, 0);
    }
  }
}
