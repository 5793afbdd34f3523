import java.util.ArrayList;
import java.util.Comparator;
import java.util.HashSet;
import java.util.List;
import java.util.Set;

/**
 * The document once more, as plainly and slowly as it can be told, for ModelTest to compare with:
 * what a till sees is a set, a pledge is a row of pennies, FILL is searched for piece by piece.
 */
final class Model {
  private static final class Wish {
    int count;
    int price;
    boolean shared;
    boolean struck;
    /** A guest for each penny, in the order in which they were pledged. */
    final List<Integer> pennies = new ArrayList<>();

    boolean ordered() {
      return shared && pennies.size() >= price;
    }
  }

  private static final class Deed {
    boolean gift;
    int number;
    int wish;
    int guest;
    int till;
    int minute;
    int price;
    int minutes;
    int state;
    boolean used;
  }

  private final List<Wish> wishes = new ArrayList<>();
  private final List<Integer> purses = new ArrayList<>();
  private final List<Deed> gifts = new ArrayList<>();
  private final List<Deed> holds = new ArrayList<>();
  private final Set<Deed> common = new HashSet<>();
  private final List<Set<Deed>> own = new ArrayList<>();
  private final List<Set<Deed>> doneApart = new ArrayList<>();
  private int minute;
  private boolean over;
  private int paid;
  private int back;

  Model() {
    for (int t = 0; t < 3; t++) {
      own.add(null);
      doneApart.add(new HashSet<>());
    }
  }

  private static void argument(boolean fine) {
    if (!fine) {
      throw new IllegalArgumentException();
    }
  }

  private static void state(boolean fine) {
    if (!fine) {
      throw new IllegalStateException();
    }
  }

  private static void number(int n, int size) {
    if (n < 0 || n >= size) {
      throw new IndexOutOfBoundsException();
    }
  }

  private static int bit(boolean is) {
    return is ? 1 : 0;
  }

  private boolean joined(int till) {
    return own.get(till) == null;
  }

  private Set<Deed> seen(int till) {
    return joined(till) ? common : own.get(till);
  }

  private boolean stands(Deed hold) {
    return !hold.used && !wishes.get(hold.wish).struck && minute < hold.minute + hold.minutes;
  }

  private void note(Deed deed) {
    if (joined(deed.till)) {
      common.add(deed);
    } else {
      own.get(deed.till).add(deed);
      doneApart.get(deed.till).add(deed);
    }
  }

  private void refund(int guest, int pence) {
    purses.set(guest, purses.get(guest) + pence);
    back += pence;
  }

  int wish(int count, int price) {
    argument(count >= 1 && count <= 5 && price >= 1 && price <= 999);
    return newWish(count, price, false);
  }

  int shared(int price) {
    argument(price >= 1 && price <= 9999);
    return newWish(1, price, true);
  }

  private int newWish(int count, int price, boolean shared) {
    state(wishes.size() < 8 && !over);
    Wish w = new Wish();
    w.count = count;
    w.price = price;
    w.shared = shared;
    wishes.add(w);
    return wishes.size() - 1;
  }

  int guest(int purse) {
    argument(purse >= 0 && purse <= 9999);
    state(purses.size() < 6);
    purses.add(purse);
    return purses.size() - 1;
  }

  private int pledgesBack(Wish w, int keep) {
    int went = 0;
    while (w.pennies.size() > keep) {
      refund(w.pennies.remove(w.pennies.size() - 1), 1);
      went++;
    }
    return went;
  }

  int price(int wish, int price) {
    number(wish, wishes.size());
    Wish w = wishes.get(wish);
    argument(price >= 1 && price <= (w.shared ? 9999 : 999));
    state(!w.ordered() && !w.struck && !over);
    w.price = price;
    return pledgesBack(w, price);
  }

  int strike(int wish) {
    number(wish, wishes.size());
    Wish w = wishes.get(wish);
    state(!w.ordered() && !w.struck && !over);
    w.struck = true;
    return pledgesBack(w, 0);
  }

  int apart(int till) {
    number(till, 3);
    state(joined(till) && !over);
    own.set(till, new HashSet<>(common));
    return bit(joined(0)) + bit(joined(1)) + bit(joined(2));
  }

  private List<Deed> tooMany(int wish, Set<Deed> book) {
    List<Deed> kept = new ArrayList<>();
    for (Deed d : gifts) {
      if (d.wish == wish && d.state == 0 && book.contains(d)) {
        kept.add(d);
      }
    }
    kept.sort(Comparator.<Deed>comparingInt(d -> d.minute)
        .thenComparingInt(d -> d.till).thenComparingInt(d -> d.number));
    int count = wishes.get(wish).count;
    return kept.size() <= count ? new ArrayList<>() : kept.subList(count, kept.size());
  }

  private List<Deed> tooManyWith(int till) {
    Set<Deed> book = new HashSet<>(common);
    book.addAll(doneApart.get(till));
    List<Deed> all = new ArrayList<>();
    for (int w = 0; w < wishes.size(); w++) {
      all.addAll(tooMany(w, book));
    }
    return all;
  }

  int join(int till) {
    number(till, 3);
    state(!joined(till) && !over);
    List<Deed> taken = tooManyWith(till);
    common.addAll(doneApart.get(till));
    doneApart.get(till).clear();
    own.set(till, null);
    for (Deed d : taken) {
      d.state = 1;
      refund(d.guest, d.price);
    }
    return taken.size();
  }

  private Deed deed(int till, int guest, int wish) {
    Deed d = new Deed();
    d.till = till;
    d.guest = guest;
    d.wish = wish;
    d.minute = minute;
    return d;
  }

  int hold(int till, int guest, int wish, int minutes) {
    number(till, 3);
    number(guest, purses.size());
    number(wish, wishes.size());
    argument(minutes >= 1 && minutes <= 60);
    state(left(till, wish) > 0 && holds.size() < 20 && !over);
    Deed d = deed(till, guest, wish);
    d.number = holds.size();
    d.minutes = minutes;
    holds.add(d);
    note(d);
    return d.number;
  }

  private int keptSeen(int till, int wish) {
    int n = 0;
    for (Deed d : seen(till)) {
      n += bit(d.gift && d.wish == wish && d.state == 0);
    }
    return n;
  }

  int buy(int till, int guest, int wish) {
    number(till, 3);
    number(guest, purses.size());
    number(wish, wishes.size());
    Wish w = wishes.get(wish);
    state(!w.shared && !w.struck && purses.get(guest) >= w.price && gifts.size() < 40 && !over);
    Deed serving = null;
    for (Deed d : holds) {
      if (serving == null && d.guest == guest && d.wish == wish && stands(d)
          && seen(till).contains(d) && keptSeen(till, wish) < w.count) {
        serving = d;
      }
    }
    state(serving != null || left(till, wish) > 0);
    if (serving != null) {
      serving.used = true;
    }
    Deed d = deed(till, guest, wish);
    d.gift = true;
    d.number = gifts.size();
    d.price = w.price;
    purses.set(guest, purses.get(guest) - w.price);
    paid += w.price;
    gifts.add(d);
    note(d);
    return d.number;
  }

  int giveBack(int guest, int wish) {
    number(guest, purses.size());
    number(wish, wishes.size());
    Deed last = null;
    for (Deed d : gifts) {
      if (d.guest == guest && d.wish == wish && d.state == 0) {
        last = d;
      }
    }
    state(last != null && minute - last.minute <= 100 && !over);
    last.state = 2;
    refund(guest, last.price);
    return last.price;
  }

  int pledge(int guest, int wish, int pence) {
    number(guest, purses.size());
    number(wish, wishes.size());
    argument(pence >= 1 && pence <= 9999);
    Wish w = wishes.get(wish);
    state(!w.struck && w.shared && !w.ordered() && purses.get(guest) >= pence && !over);
    int n = 0;
    while (n < pence && w.pennies.size() < w.price) {
      w.pennies.add(guest);
      n++;
    }
    purses.set(guest, purses.get(guest) - n);
    paid += n;
    return n;
  }

  int pass(int minutes) {
    argument(minutes >= 1 && minutes <= 500);
    state(minute + minutes <= 9999);
    minute += minutes;
    return shop(10);
  }

  int callOff() {
    state(!over);
    over = true;
    int before = back;
    for (Deed d : gifts) {
      if (d.state == 0) {
        d.state = 2;
        refund(d.guest, d.price);
      }
    }
    for (Wish w : wishes) {
      pledgesBack(w, 0);
    }
    return back - before;
  }

  int ofWish(int wish, int what) {
    number(wish, wishes.size());
    argument(what >= 0 && what <= 8);
    Wish w = wishes.get(wish);
    int kept = 0;
    int taken = 0;
    for (Deed d : gifts) {
      kept += bit(d.wish == wish && d.state == 0);
      taken += bit(d.wish == wish && d.state == 1);
    }
    int lacking = w.shared ? Math.max(0, w.price - w.pennies.size()) : 0;
    int[] all = {w.count, w.price, bit(w.shared), bit(w.struck), kept, taken, w.pennies.size(),
        lacking, bit(w.ordered())};
    return all[what];
  }

  private int pennies(int guest) {
    int n = 0;
    for (Wish w : wishes) {
      for (int g : w.pennies) {
        n += bit(g == guest);
      }
    }
    return n;
  }

  int ofGuest(int guest, int what) {
    number(guest, purses.size());
    argument(what >= 0 && what <= 5);
    int[] all = new int[6];
    all[0] = purses.get(guest);
    for (Deed d : gifts) {
      if (d.guest == guest) {
        all[1] += bit(d.state == 0);
        all[2] += d.state == 0 ? d.price : 0;
        all[4] += bit(d.state == 1);
      }
    }
    all[3] = pennies(guest);
    for (Deed d : holds) {
      all[5] += bit(d.guest == guest && stands(d));
    }
    return all[what];
  }

  int left(int till, int wish) {
    number(till, 3);
    number(wish, wishes.size());
    Wish w = wishes.get(wish);
    int n = w.count;
    for (Deed d : seen(till)) {
      n -= bit(d.wish == wish && (d.gift ? d.state == 0 : stands(d)));
    }
    return w.shared || w.struck ? 0 : Math.max(0, n);
  }

  int ofTill(int till, int what) {
    number(till, 3);
    argument(what >= 0 && what <= 5);
    int[] all = new int[6];
    all[0] = bit(joined(till));
    for (Deed d : gifts) {
      all[1] += bit(d.till == till && d.state == 0);
    }
    for (Deed d : seen(till)) {
      all[2] += bit(!d.gift && stands(d));
      all[3] += bit(d.gift && d.state == 0);
    }
    all[4] = fill(piecesAt(till), -1);
    all[5] = piecesAt(till).size();
    return all[what];
  }

  int ofGift(int gift, int what) {
    number(gift, gifts.size());
    argument(what >= 0 && what <= 5);
    Deed d = gifts.get(gift);
    int[] all = {d.wish, d.guest, d.till, d.minute, d.price, d.state};
    return all[what];
  }

  int shop(int what) {
    argument(what >= 0 && what <= 11);
    int[] states = new int[3];
    for (Deed d : gifts) {
      states[d.state]++;
    }
    int standing = 0;
    for (Deed d : holds) {
      standing += bit(stands(d));
    }
    int[] all = {minute, wishes.size(), purses.size(), gifts.size(), states[0], states[1], states[2],
        paid, back, holds.size(), standing, bit(over)};
    return all[what];
  }

  String card(int wish) {
    number(wish, wishes.size());
    String text = "";
    for (Deed d : gifts) {
      if (d.wish == wish && d.state == 0) {
        text += d.guest;
      }
    }
    String pledged = "";
    for (int g = 0; g < purses.size(); g++) {
      if (wishes.get(wish).pennies.contains(g)) {
        pledged += g;
      }
    }
    if (!pledged.isEmpty()) {
      text += "+" + pledged;
    }
    return text.isEmpty() ? "none" : text;
  }

  int wouldTake(int till) {
    number(till, 3);
    return joined(till) ? 0 : tooManyWith(till).size();
  }

  /** The wish of each piece that is left. */
  private List<Integer> piecesAt(int till) {
    List<Integer> pieces = new ArrayList<>();
    for (int w = 0; w < wishes.size(); w++) {
      for (int n = left(till, w); n > 0; n--) {
        pieces.add(w);
      }
    }
    return pieces;
  }

  private int fill(List<Integer> pieces, int without) {
    int[] buyer = new int[pieces.size()];
    java.util.Arrays.fill(buyer, -1);
    int n = 0;
    for (int g = 0; g < purses.size(); g++) {
      if (g != without && ofGuest(g, 1) == 0 && pennies(g) == 0) {
        n += bit(served(g, pieces, buyer, new boolean[pieces.size()]));
      }
    }
    return n;
  }

  private boolean served(int g, List<Integer> pieces, int[] buyer, boolean[] tried) {
    for (int p = 0; p < pieces.size(); p++) {
      if (!tried[p] && wishes.get(pieces.get(p)).price <= purses.get(g)) {
        tried[p] = true;
        if (buyer[p] < 0 || served(buyer[p], pieces, buyer, tried)) {
          buyer[p] = g;
          return true;
        }
      }
    }
    return false;
  }

  int hint(int guest, int till) {
    number(guest, purses.size());
    number(till, 3);
    List<Integer> pieces = piecesAt(till);
    int whole = fill(pieces, guest);
    int cheapest = -1;
    int dearest = -1;
    for (int w = 0; w < wishes.size(); w++) {
      int price = wishes.get(w).price;
      if (!pieces.contains(w) || price > purses.get(guest)) {
        continue;
      }
      if (dearest < 0 || price > wishes.get(dearest).price) {
        dearest = w;
      }
      List<Integer> rest = new ArrayList<>(pieces);
      rest.remove((Integer) w);
      if (fill(rest, guest) == whole && (cheapest < 0 || price < wishes.get(cheapest).price)) {
        cheapest = w;
      }
    }
    return cheapest >= 0 ? cheapest : dearest;
  }

  long digest() {
    List<Integer> all = new ArrayList<>();
    for (int k = 0; k <= 11; k++) {
      all.add(shop(k));
    }
    for (int w = 0; w < wishes.size(); w++) {
      for (int k = 0; k <= 8; k++) {
        all.add(ofWish(w, k));
      }
    }
    for (int g = 0; g < purses.size(); g++) {
      for (int k = 0; k <= 5; k++) {
        all.add(ofGuest(g, k));
      }
    }
    for (int t = 0; t < 3; t++) {
      for (int k = 0; k <= 5; k++) {
        all.add(ofTill(t, k));
      }
      for (int w = 0; w < wishes.size(); w++) {
        all.add(left(t, w));
      }
      for (int g = 0; g < purses.size(); g++) {
        all.add(hint(g, t));
      }
      all.add(wouldTake(t));
    }
    for (Deed d : gifts) {
      all.add(d.state);
    }
    // A right list is always sound: the document's law leaves no way to another answer.
    all.add(1);
    long d = 4909;
    for (int v : all) {
      d = d * 31 + v;
    }
    return d;
  }
}
