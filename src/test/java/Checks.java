import java.util.Objects;

/** Counts what was checked and prints what was not as due. */
final class Checks {
  private int passed;
  private int failed;

  interface Call {
    Object answer();
  }

  void same(String name, Object got, Object due) {
    if (Objects.equals(got, due)) {
      passed++;
      return;
    }
    failed++;
    System.out.println(name + " answered " + got + ", due is " + due);
  }

  void same(String name, int got, int due) {
    same(name, Integer.valueOf(got), Integer.valueOf(due));
  }

  void refused(String name, Class<? extends RuntimeException> due, Call call) {
    same(name, answerOf(call), due.getSimpleName());
  }

  /**
   * What a call answers, or the name of what it throws: another name, if it is not the class's own
   * statement that throws it, but the machine or the library.
   */
  static Object answerOf(Call call) {
    try {
      return call.answer();
    } catch (RuntimeException e) {
      String thrower = e.getStackTrace()[0].getClassName();
      boolean own = thrower.equals("Tureenlist") || thrower.startsWith("Tureenlist$")
          || thrower.equals("Model");
      return own ? e.getClass().getSimpleName() : thrower + "'s own " + e.getClass().getSimpleName();
    }
  }

  void end() {
    System.out.println(passed + " passed, " + failed + " failed");
    if (failed != 0) {
      System.exit(1);
    }
  }
}
