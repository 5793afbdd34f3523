import java.math.BigInteger;
import java.util.ArrayList;
import java.util.List;
import java.util.Set;

/**
 * A run of calls on a new object, told as text: "wish 2 100 = 0; buy 0 0 0 ! state; 3 * pass 500".
 * "=" tells the answer that is due, "!" what must be thrown (index, argument or state), "3 *" that the
 * call is made three times; a call with neither sign must not throw.
 */
final class Run {
  /** The document promises nothing for later calls on one object. */
  private static final int MOST_CALLS = 512;
  private static final Set<String> CHANGING = Set.of("wish", "shared", "guest", "price", "strike",
      "apart", "join", "hold", "buy", "giveBack", "pledge", "pass", "callOff");

  private record Row(String told, String name, int[] with, String due, boolean refused) {
    boolean leavesAll() {
      return refused || !CHANGING.contains(name);
    }
  }

  /** An object, and how many calls were made on it. */
  private static final class Used {
    final Tureenlist x = new Tureenlist();
    private int calls;

    String ask(String name, int... with) {
      calls++;
      if (calls > MOST_CALLS) {
        throw new AssertionError("a test makes more than 512 calls on one object");
      }
      return String.valueOf(Checks.answerOf(() -> call(x, name, with)));
    }
  }

  private interface View {
    String of(Used one);
  }

  private static final View[] VIEWS = {Run::numbers, Run::book, Run::aftermath};

  private Run() {
  }

  /** Plays the run, and looks behind each call that must change nothing whether it did. */
  static void check(Checks checks, String sentence, String... calls) {
    List<Row> rows = new ArrayList<>();
    for (String some : calls) {
      for (String told : some.split(";")) {
        if (!told.isBlank()) {
          addRows(rows, told.trim());
        }
      }
    }
    if (!answersAreDue(checks, sentence, rows)) {
      return;
    }
    for (int i = 0; i < rows.size(); i++) {
      boolean again = i > 0 && rows.get(i).told.equals(rows.get(i - 1).told);
      if (rows.get(i).leavesAll() && !again) {
        checkNothingChanged(checks, sentence, rows.subList(0, i + 1));
      }
    }
    checks.same(sentence + ": digest behind it all", digestOf(rows), foldedOf(rows));
    checks.same(sentence + ": isSound behind it all", played(rows).ask("isSound"), "true");
  }

  private static void addRows(List<Row> rows, String told) {
    int star = told.indexOf('*');
    int times = star < 0 ? 1 : Integer.parseInt(told.substring(0, star).trim());
    String call = told.substring(star + 1).trim();
    String[] halves = call.split(" [=!] ?", 2);
    String[] words = halves[0].trim().split(" +");
    int[] with = new int[words.length - 1];
    for (int i = 0; i < with.length; i++) {
      with[i] = numberOf(words[i + 1]);
    }
    boolean refused = call.indexOf('!') >= 0;
    String due = halves.length < 2 ? null : refused ? exceptionOf(halves[1]) : halves[1].trim();
    for (int n = 0; n < times; n++) {
      rows.add(new Row(call, words[0], with, due, refused));
    }
  }

  private static int numberOf(String word) {
    switch (word) {
      case "lowest":
        return Integer.MIN_VALUE;
      case "highest":
        return Integer.MAX_VALUE;
      default:
        return Integer.parseInt(word);
    }
  }

  private static String exceptionOf(String word) {
    switch (word.trim()) {
      case "index":
        return "IndexOutOfBoundsException";
      case "argument":
        return "IllegalArgumentException";
      case "state":
        return "IllegalStateException";
      default:
        throw new AssertionError("no such exception: " + word);
    }
  }

  private static boolean answersAreDue(Checks checks, String sentence, List<Row> rows) {
    Used one = new Used();
    boolean fine = true;
    for (int i = 0; i < rows.size(); i++) {
      Row row = rows.get(i);
      String got = one.ask(row.name, row.with);
      String due = row.due != null ? row.due : got.endsWith("Exception") ? "an answer" : got;
      checks.same(sentence + ": call " + i + ", " + row.told + ",", got, due);
      fine = fine && got.equals(due);
    }
    return fine;
  }

  /** The object behind all rows must answer as one that saw only those that change something. */
  private static void checkNothingChanged(Checks checks, String sentence, List<Row> rows) {
    List<Row> changing = new ArrayList<>();
    for (Row row : rows) {
      if (!row.leavesAll()) {
        changing.add(row);
      }
    }
    String told = rows.get(rows.size() - 1).told;
    for (View view : VIEWS) {
      checks.same(sentence + ": behind " + told + ", which changes nothing,",
          view.of(played(rows)), view.of(played(changing)));
    }
  }

  private static Used played(List<Row> rows) {
    Used one = new Used();
    for (Row row : rows) {
      one.ask(row.name, row.with);
    }
    return one;
  }

  private static Object call(Tureenlist x, String name, int[] with) {
    int a = with.length > 0 ? with[0] : 0;
    int b = with.length > 1 ? with[1] : 0;
    int c = with.length > 2 ? with[2] : 0;
    int d = with.length > 3 ? with[3] : 0;
    switch (name + " " + with.length) {
      case "wish 2": return x.wish(a, b);
      case "shared 1": return x.shared(a);
      case "guest 1": return x.guest(a);
      case "price 2": return x.price(a, b);
      case "strike 1": return x.strike(a);
      case "apart 1": return x.apart(a);
      case "join 1": return x.join(a);
      case "hold 4": return x.hold(a, b, c, d);
      case "buy 3": return x.buy(a, b, c);
      case "giveBack 2": return x.giveBack(a, b);
      case "pledge 3": return x.pledge(a, b, c);
      case "pass 1": return x.pass(a);
      case "callOff 0": return x.callOff();
      case "ofWish 2": return x.ofWish(a, b);
      case "ofGuest 2": return x.ofGuest(a, b);
      case "left 2": return x.left(a, b);
      case "ofTill 2": return x.ofTill(a, b);
      case "ofGift 2": return x.ofGift(a, b);
      case "shop 1": return x.shop(a);
      case "card 1": return x.card(a);
      case "wouldTake 1": return x.wouldTake(a);
      case "hint 2": return x.hint(a, b);
      case "isSound 0": return x.isSound();
      case "digest 0": return x.digest();
      default: throw new AssertionError("no such call: " + name + " with " + with.length);
    }
  }

  // ---- views: all that an object can be asked, in parts that stay below 512 calls

  private static String numbers(Used one) {
    StringBuilder all = new StringBuilder();
    for (String number : digested(one)) {
      all.append(number).append(' ');
    }
    for (int w = 0; w < size(one, 1); w++) {
      all.append(one.ask("card", w)).append(' ');
    }
    return all.append(one.ask("digest")).toString();
  }

  private static String book(Used one) {
    StringBuilder all = new StringBuilder();
    for (int gift = 0; gift < size(one, 3); gift++) {
      for (int what = 0; what <= 5; what++) {
        all.append(one.ask("ofGift", gift, what)).append(' ');
      }
    }
    return all.toString();
  }

  /** What can't be asked (what serves, what is seen, which pledge is the last) shows in later calls. */
  private static String aftermath(Used one) {
    StringBuilder all = new StringBuilder();
    int wishes = size(one, 1);
    int guests = size(one, 2);
    for (int till = 0; till < 3; till++) {
      for (int g = 0; g < Math.min(guests, 3); g++) {
        for (int w = 0; w < Math.min(wishes, 3); w++) {
          all.append(one.ask("buy", till, g, w)).append(' ');
        }
      }
    }
    all.append(one.ask("digest")).append('\n').append(one.ask("pass", 1)).append(' ');
    for (int w = 0; w < wishes; w++) {
      all.append(one.ask("price", w, 2)).append(' ');
    }
    all.append(one.ask("digest")).append('\n');
    for (int till = 2; till >= 0; till--) {
      all.append(one.ask("join", till)).append(' ').append(one.ask("digest")).append('\n');
    }
    for (int g = 0; g < guests; g++) {
      for (int w = 0; w < wishes; w++) {
        all.append(one.ask("giveBack", g, w)).append(' ');
      }
    }
    all.append(one.ask("wish", 1, 1)).append(' ').append(one.ask("guest", 1)).append(' ');
    for (int minutes = 29; minutes <= 30; minutes++) {
      all.append(one.ask("pass", minutes)).append(' ').append(one.ask("digest")).append('\n');
    }
    return all.append(one.ask("callOff")).append(' ').append(one.ask("digest")).toString();
  }

  private static int size(Used one, int what) {
    return Integer.parseInt(one.ask("shop", what));
  }

  // ---- the digest once more, with numbers that never wrap by themselves

  private static List<String> digested(Used one) {
    List<String> all = new ArrayList<>();
    int wishes = size(one, 1);
    int guests = size(one, 2);
    for (int what = 0; what <= 11; what++) {
      all.add(one.ask("shop", what));
    }
    for (int n = 0; n < wishes * 9; n++) {
      all.add(one.ask("ofWish", n / 9, n % 9));
    }
    for (int n = 0; n < guests * 6; n++) {
      all.add(one.ask("ofGuest", n / 6, n % 6));
    }
    for (int till = 0; till < 3; till++) {
      for (int what = 0; what <= 5; what++) {
        all.add(one.ask("ofTill", till, what));
      }
      for (int w = 0; w < wishes; w++) {
        all.add(one.ask("left", till, w));
      }
      for (int g = 0; g < guests; g++) {
        all.add(one.ask("hint", g, till));
      }
      all.add(one.ask("wouldTake", till));
    }
    return all;
  }

  private static String digestOf(List<Row> rows) {
    return played(rows).ask("digest");
  }

  private static String foldedOf(List<Row> rows) {
    Used one = played(rows);
    List<String> all = digested(one);
    int gifts = size(one, 3);
    for (int gift = 0; gift < gifts; gift++) {
      all.add(one.ask("ofGift", gift, 5));
    }
    all.add(one.ask("isSound").equals("true") ? "1" : "0");
    BigInteger d = BigInteger.valueOf(4909);
    for (String number : all) {
      d = d.multiply(BigInteger.valueOf(31)).add(new BigInteger(number));
    }
    return String.valueOf(d.longValue());
  }
}
