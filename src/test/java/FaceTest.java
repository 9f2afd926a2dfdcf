import java.lang.reflect.Constructor;
import java.lang.reflect.Field;
import java.lang.reflect.Method;
import java.lang.reflect.Modifier;
import java.util.Arrays;
import java.util.Set;
import java.util.TreeSet;

/** The public face is the document's, and no more than that. */
public final class FaceTest {
  private static final String[] FACE = {
    "int price(int,int,int)", "int plain(int)", "int at(int,int)", "int home(int)", "int base(int,int,int)",
    "int cable(int)", "int job(int,int,int,int,int,int,int,int)", "int of(int,int)", "int may(int,int)",
    "int put(int,int)", "long whole()", "int each()", "int feed(int,int,int,int,int)", "int end(int)", "int rules()",
    "int fault()", "int go(int)", "int load(int,int)", "long cost(int,int)", "long saved(int)",
    "int store(int,int,int,int,int,int,int)", "int level(int,int)", "long fill(int,int,int)", "int filled(int,int)",
    "int count(int)", "int status()"};

  public static void main(String[] args) {
    Check check = new Check();
    Class<?> c = PlugHours.class;
    check.isTrue("public and final", Modifier.isPublic(c.getModifiers()) && Modifier.isFinal(c.getModifiers()));
    Set<String> seen = new TreeSet<>();
    Set<String> names = new TreeSet<>();
    for (Method m : c.getDeclaredMethods()) {
      if (Modifier.isPrivate(m.getModifiers())) {
        continue;
      }
      StringBuilder s = new StringBuilder(m.getReturnType() + " " + m.getName() + "(");
      for (Class<?> p : m.getParameterTypes()) {
        s.append(s.charAt(s.length() - 1) == '(' ? "" : ",").append(p);
      }
      seen.add(s.append(')').toString());
      names.add(m.getName());
      check.isTrue(m + " is public and of an object", Modifier.isPublic(m.getModifiers())
          && !Modifier.isStatic(m.getModifiers()));
    }
    check.isTrue("the methods of the document: " + seen, seen.equals(new TreeSet<>(Arrays.asList(FACE))));
    for (Method m : c.getDeclaredMethods()) {
      check.isTrue(m + " has a name of its own", !Modifier.isPrivate(m.getModifiers()) || !names.contains(m.getName()));
    }
    for (Class<?> inside : c.getDeclaredClasses()) {
      for (Method m : inside.getDeclaredMethods()) {
        check.isTrue(m + " has a name of its own", !names.contains(m.getName()));
      }
    }
    Constructor<?>[] made = c.getDeclaredConstructors();
    check.isTrue("one public constructor without arguments", made.length == 1
        && Modifier.isPublic(made[0].getModifiers()) && made[0].getParameterCount() == 0);
    Set<String> constants = new TreeSet<>();
    for (Field f : c.getDeclaredFields()) {
      if (!Modifier.isPrivate(f.getModifiers())) {
        constants.add(f.getType() + " " + f.getName());
      }
    }
    check.isTrue("two constants: " + constants, constants.equals(new TreeSet<>(Arrays.asList("int NONE", "long BEYOND"))));
    check.due("NONE", PlugHours.NONE, -1);
    check.due("BEYOND", PlugHours.BEYOND, -4000000000000000000L);
    check.end("FaceTest");
  }
}
