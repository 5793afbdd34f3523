import java.util.Objects;

/** Counts what was checked and prints what was not as due. */
final class Checks {
  private int passed;
  private int failed;

  interface Call {
    Object answer();
  }

  void same(String name, Object got, Object due) {
    if (Objects.equals(got, due)) {
      passed++;
      return;
    }
    failed++;
    System.out.println(name + " answered " + got + ", due is " + due);
  }

  void same(String name, int got, int due) {
    same(name, Integer.valueOf(got), Integer.valueOf(due));
  }

  /** The exact class counts, so that an exception of the machine's own is never taken for it. */
  void refused(String name, Class<? extends RuntimeException> due, Call call) {
    same(name, answerOf(call), due.getSimpleName());
  }

  /** What a call answers, or the name of what it throws. */
  static Object answerOf(Call call) {
    try {
      return call.answer();
    } catch (RuntimeException e) {
      return e.getClass().getSimpleName();
    }
  }

  void end() {
    System.out.println(passed + " passed, " + failed + " failed");
    if (failed != 0) {
      System.exit(1);
    }
  }
}
