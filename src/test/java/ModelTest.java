/**
 * Many runs of calls, drawn by a law of their own from numbered seeds, on the class and on the model:
 * each answer, and after each call all that can be asked, must be the same.
 */
public final class ModelTest {
  private static final int RUNS = 1000;
  /** The document promises nothing for later calls on one object. */
  private static final int MOST_CALLS = 512;
  /** What one step and the questions behind all of them may need. */
  private static final int LAST_CALLS = 3 + 40 * 6 + 8;
  private static final int[] WILD = {-1, 0, 1, 2, 3, 5, 6, 8, 9, 12, 60, 61, 500, 501, 999, 1000,
      9999, 10000, Integer.MAX_VALUE, Integer.MIN_VALUE};

  private static final Checks checks = new Checks();
  private static long seed;
  /** Calls made on the object of this run. */
  private static int used;

  private static int below(int n) {
    seed = seed * 6364136223846793005L + 1442695040888963407L;
    return (int) ((seed >>> 33) % n);
  }

  /** Mostly a number below n; seldom one of those at or far beyond an edge. */
  private static int about(int n) {
    return below(40) == 0 ? WILD[below(WILD.length)] : below(n);
  }

  private static int pence(int most) {
    return below(40) == 0 ? WILD[below(WILD.length)] : 1 + below(most);
  }

  public static void main(String[] args) {
    int[] refused = new int[1];
    for (int run = 0; run < RUNS; run++) {
      seed = run * 7919L + 17;
      oneRun(run, refused);
    }
    System.out.println(refused[0] + " of the calls were refused");
    checks.end();
  }

  private static void oneRun(int run, int[] refused) {
    Tureenlist x = new Tureenlist();
    Model m = new Model();
    used = 0;
    // Few pence make purses run out and prices meet; many make gifts and shares come about.
    int most = run % 3 == 0 ? 12 : run % 3 == 1 ? 90 : 999;
    for (int n = 1 + below(5); n > 0; n--) {
      int purse = below(most * 4);
      same(run, "guest", x.guest(purse), m.guest(purse));
    }
    for (int n = 1 + below(4); n > 0; n--) {
      int count = 1 + below(3);
      int price = 1 + below(most);
      same(run, "wish", x.wish(count, price), m.wish(count, price));
    }
    // Some runs are looked at behind each step; the others have more steps.
    int every = 1 + run % 4;
    for (int i = 0; used < MOST_CALLS - LAST_CALLS; i++) {
      Object due = oneCall(run, i, x, m, most);
      refused[0] += due instanceof String && ((String) due).endsWith("Exception") ? 1 : 0;
      if (i % every == 0 && !sameDigest(run, i, x.digest(), m.digest())) {
        return;
      }
    }
    sameEnd(run, x, m);
  }

  private static boolean sameDigest(int run, int i, long got, long due) {
    same(run, "digest behind call " + i, got, due);
    return got == due;
  }

  private static Object same(int run, String name, Object got, Object due) {
    used++;
    checks.same("run " + run + ", " + name, got, due);
    return due;
  }

  private static Object both(int run, int i, String name, Checks.Call got, Checks.Call due) {
    return same(run, name + " as call " + i, Checks.answerOf(got), Checks.answerOf(due));
  }

  private static Object oneCall(int run, int i, Tureenlist x, Model m, int most) {
    int w = about(Math.max(1, m.shop(1)));
    int g = about(Math.max(1, m.shop(2)));
    int t = about(3);
    int what = about(12);
    switch (below(64)) {
      case 0: {
        int count = pence(5);
        int price = pence(most);
        return both(run, i, "wish", () -> x.wish(count, price), () -> m.wish(count, price));
      }
      case 1: case 2: {
        int price = pence(most * 5);
        return both(run, i, "shared", () -> x.shared(price), () -> m.shared(price));
      }
      case 3: {
        int purse = about(most * 4);
        return both(run, i, "guest", () -> x.guest(purse), () -> m.guest(purse));
      }
      case 4: case 5: case 6: case 7: {
        int price = pence(most * 2);
        return both(run, i, "price", () -> x.price(w, price), () -> m.price(w, price));
      }
      case 8:
        return below(4) > 0 ? null : both(run, i, "strike", () -> x.strike(w), () -> m.strike(w));
      case 9: case 10: case 11: case 12: case 13: case 14:
        return both(run, i, "apart", () -> x.apart(t), () -> m.apart(t));
      case 15: case 16: case 17: case 18: case 19: case 20:
        both(run, i, "wouldTake", () -> x.wouldTake(t), () -> m.wouldTake(t));
        return both(run, i, "join", () -> x.join(t), () -> m.join(t));
      case 21: case 22: case 23: {
        int minutes = pence(60);
        return both(run, i, "hold", () -> x.hold(t, g, w, minutes), () -> m.hold(t, g, w, minutes));
      }
      case 24: case 25: case 26: case 27: case 28: case 29: {
        int pence = pence(most * 2);
        return both(run, i, "pledge", () -> x.pledge(g, w, pence), () -> m.pledge(g, w, pence));
      }
      case 30: case 31: case 32: case 33: case 34: case 35:
        return both(run, i, "giveBack", () -> x.giveBack(g, w), () -> m.giveBack(g, w));
      case 36: case 37: case 38: case 39: case 40: {
        int minutes = pence(below(8) == 0 ? 120 : 12);
        return both(run, i, "pass", () -> x.pass(minutes), () -> m.pass(minutes));
      }
      case 41:
        return below(5) > 0 ? null : both(run, i, "callOff", () -> x.callOff(), () -> m.callOff());
      case 42:
        return both(run, i, "ofWish", () -> x.ofWish(w, what), () -> m.ofWish(w, what));
      case 43:
        return both(run, i, "ofGuest", () -> x.ofGuest(g, what), () -> m.ofGuest(g, what));
      case 44:
        return both(run, i, "ofTill", () -> x.ofTill(t, what), () -> m.ofTill(t, what));
      case 45:
        return both(run, i, "shop", () -> x.shop(what), () -> m.shop(what));
      case 46:
        return both(run, i, "card", () -> x.card(w), () -> m.card(w));
      case 47:
        return both(run, i, "hint", () -> x.hint(g, t), () -> m.hint(g, t));
      case 48:
        return both(run, i, "left", () -> x.left(t, w), () -> m.left(t, w));
      case 49: {
        int gift = about(Math.max(1, m.shop(3)));
        return both(run, i, "ofGift", () -> x.ofGift(gift, what), () -> m.ofGift(gift, what));
      }
      default:
        return both(run, i, "buy", () -> x.buy(t, g, w), () -> m.buy(t, g, w));
    }
  }

  private static void sameEnd(int run, Tureenlist x, Model m) {
    for (int gift = 0; gift < m.shop(3); gift++) {
      for (int what = 0; what <= 5; what++) {
        same(run, "ofGift", x.ofGift(gift, what), m.ofGift(gift, what));
      }
    }
    for (int w = 0; w < m.shop(1); w++) {
      same(run, "card", x.card(w), m.card(w));
    }
  }
}
