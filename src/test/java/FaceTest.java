import java.lang.reflect.Constructor;
import java.lang.reflect.Field;
import java.lang.reflect.Method;
import java.lang.reflect.Modifier;
import java.util.ArrayList;
import java.util.List;
import java.util.TreeSet;

/** The face is the document's, and no more of the class can be reached (LANGUAGE.md, rules 1 and 5). */
public final class FaceTest {
  private static final Checks checks = new Checks();
  private static final String[] FACE = {
    "int wish(int, int)", "int shared(int)", "int guest(int)", "int price(int, int)",
    "int strike(int)", "int apart(int)", "int join(int)", "int hold(int, int, int, int)",
    "int buy(int, int, int)", "int giveBack(int, int)", "int pledge(int, int, int)", "int pass(int)",
    "int callOff()", "int ofWish(int, int)", "int ofGuest(int, int)", "int left(int, int)",
    "int ofTill(int, int)", "int ofGift(int, int)", "int shop(int)", "String card(int)",
    "int wouldTake(int)", "int hint(int, int)", "boolean isSound()", "long digest()",
  };

  public static void main(String[] args) {
    Class<Tureenlist> face = Tureenlist.class;
    checks.same("class is public and final", Modifier.toString(face.getModifiers()), "public final");
    checkMethods(face);
    for (Constructor<?> one : face.getDeclaredConstructors()) {
      checks.same(one.toString(), one.toString(), "public Tureenlist()");
    }
    checkFields(face);
    for (Class<?> inside : face.getDeclaredClasses()) {
      int how = inside.getModifiers();
      checks.same(inside.getName() + " is reached from outside",
          Modifier.isPublic(how) || Modifier.isProtected(how), false);
      checkFields(inside);
    }
    checks.end();
  }

  private static void checkMethods(Class<?> face) {
    List<String> open = new ArrayList<>();
    TreeSet<String> openNames = new TreeSet<>();
    List<Method> hidden = new ArrayList<>();
    for (Method one : face.getDeclaredMethods()) {
      if (Modifier.isPrivate(one.getModifiers())) {
        hidden.add(one);
      } else {
        open.add(told(one));
        openNames.add(one.getName());
      }
    }
    checks.same("the methods", new TreeSet<>(open), new TreeSet<>(List.of(FACE)));
    checks.same("how many", open.size(), FACE.length);
    for (Method one : hidden) {
      checks.same("private " + one.getName() + " bears a public name",
          openNames.contains(one.getName()), false);
    }
  }

  private static String told(Method one) {
    List<String> types = new ArrayList<>();
    for (Class<?> type : one.getParameterTypes()) {
      types.add(type.getSimpleName());
    }
    return one.getReturnType().getSimpleName() + " " + one.getName()
        + "(" + String.join(", ", types) + ")";
  }

  private static void checkFields(Class<?> of) {
    for (Field one : of.getDeclaredFields()) {
      int how = one.getModifiers();
      String name = of.getSimpleName() + "." + one.getName();
      if (of == Tureenlist.class) {
        checks.same(name + " is private", Modifier.isPrivate(how), true);
      }
      checks.same(name + " is static and changes", Modifier.isStatic(how) && !Modifier.isFinal(how),
          false);
    }
  }
}
