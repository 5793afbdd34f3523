import java.lang.reflect.InvocationTargetException;
import java.lang.reflect.Method;
import java.nio.file.Files;
import java.nio.file.Path;
import java.util.ArrayList;
import java.util.HashMap;
import java.util.List;
import java.util.Map;
import java.util.regex.Matcher;
import java.util.regex.Pattern;

/** The run in README.md: each call must answer what the text behind it says. */
public final class ReadmeTest {
  private static final Pattern CALL =
      Pattern.compile("(?:int (\\w+) = )?list\\.(\\w+)\\((.*)\\); *// (throws )?([^:]+)(: .*)?");
  private static final String NEW = "Tureenlist list = new Tureenlist();";

  private static final Checks checks = new Checks();
  private static final Tureenlist list = new Tureenlist();
  private static final Map<String, Integer> named = new HashMap<>();

  public static void main(String[] args) throws Exception {
    List<String> told = toldRun();
    checks.same("the run begins with a new object", told.isEmpty() ? "nothing" : told.get(0), NEW);
    for (int i = 1; i < told.size(); i++) {
      checkCall(told.get(i));
    }
    checks.same("the run has calls", told.size() > 1, true);
    checks.end();
  }

  private static List<String> toldRun() throws Exception {
    List<String> run = new ArrayList<>();
    boolean inside = false;
    for (String line : Files.readAllLines(Path.of("README.md"))) {
      if (line.startsWith("```")) {
        inside = line.equals("```java");
      } else if (inside) {
        run.add(line);
      }
    }
    return run;
  }

  private static void checkCall(String line) throws Exception {
    Matcher parts = CALL.matcher(line);
    if (!parts.matches()) {
      checks.same("a line of the run", line, "a call and its answer");
      return;
    }
    String got = answer(parts.group(2), parts.group(3));
    checks.same(line + " It", got, parts.group(5));
    checks.same(line + " Whether it throws", got.endsWith("Exception"), parts.group(4) != null);
    if (parts.group(1) != null && got.matches("[0-9]+")) {
      named.put(parts.group(1), Integer.valueOf(got));
    }
  }

  private static String answer(String name, String told) throws Exception {
    String[] words = told.isEmpty() ? new String[0] : told.split(", ");
    Object[] with = new Object[words.length];
    Class<?>[] types = new Class<?>[words.length];
    for (int i = 0; i < words.length; i++) {
      with[i] = named.containsKey(words[i]) ? named.get(words[i]) : Integer.valueOf(words[i]);
      types[i] = int.class;
    }
    Method call = Tureenlist.class.getMethod(name, types);
    try {
      return String.valueOf(call.invoke(list, with));
    } catch (InvocationTargetException e) {
      return e.getCause().getClass().getSimpleName();
    }
  }
}
