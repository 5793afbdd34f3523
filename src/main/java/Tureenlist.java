import java.util.ArrayList;

/**
 * A wedding list at a shop with two tills and a telephone, which do not see each other for a while.
 * What it must do stands in ../shared/DOC.md; the words in capitals there are the names used here.
 */
public final class Tureenlist {
  private static final int NONE = -1;

  private static final int MOST_WISHES = 8;
  private static final int MOST_GUESTS = 6;
  private static final int MOST_GIFTS = 40;
  private static final int MOST_HOLDS = 20;

  private static final int MOST_COUNT = 5;
  private static final int MOST_PRICE = 999;
  private static final int MOST_PENCE = 9999;

  private static final int LAST_MINUTE = 9999;
  private static final int MOST_MINUTES_HELD = 60;
  private static final int MOST_MINUTES_PASSED = 500;
  private static final int MINUTES_TO_GIVE_BACK = 100;

  private static final int TILLS = 3;
  private static final int ALL_TILLS = (1 << TILLS) - 1;

  private static final int KEPT = 0;
  private static final int TAKEN_BACK = 1;
  private static final int GIVEN_BACK = 2;

  private static final int SHOP_NUMBERS = 12;
  private static final int WISH_NUMBERS = 9;
  private static final int GUEST_NUMBERS = 6;
  private static final int TILL_NUMBERS = 6;
  private static final int GIFT_STATE = 5;
  private static final long DIGEST_START = 4909;

  private final ArrayList<Wish> wishes;
  private final ArrayList<Guest> guests;
  private final ArrayList<Gift> gifts;
  private final ArrayList<Hold> holds;
  /** A bit for each TILL that is JOINED. */
  private int joined;
  private int minute;
  private boolean calledOff;
  private int paidEver;
  private int wentBackEver;

  private static final class Guest {
    final int number;
    int purse;

    Guest(int number, int purse) {
      this.number = number;
      this.purse = purse;
    }
  }

  private static final class Pledge {
    final Guest by;
    int pence;

    Pledge(Guest by, int pence) {
      this.by = by;
      this.pence = pence;
    }
  }

  private static final class Wish {
    final int number;
    final int count;
    final boolean forMany;
    int cost;
    boolean struck;
    /** As they came; each has a penny at least, so there are never more than its price has pence. */
    final ArrayList<Pledge> pledges;
    /** LEFT at the TILL that took stock last: FILL and HINT ask for it many times in one call. */
    int stock;

    Wish(int number, int count, int cost, boolean forMany) {
      this.number = number;
      this.count = count;
      this.cost = cost;
      this.forMany = forMany;
      this.pledges = new ArrayList<Pledge>();
    }

    int pledged() {
      int pence = 0;
      for (int i = 0; i < pledges.size(); i++) {
        pence += pledges.get(i).pence;
      }
      return pence;
    }

    int pledgedBy(Guest guest) {
      int pence = 0;
      for (int i = 0; i < pledges.size(); i++) {
        Pledge one = pledges.get(i);
        if (one.by == guest) {
          pence += one.pence;
        }
      }
      return pence;
    }

    int lacking() {
      return forMany ? Math.max(0, cost - pledged()) : 0;
    }

    // No price falls below the pledges without what is too much going back, and none is changed once
    // nothing is lacking; so this stays true by itself till all pledges go back.
    boolean isOrdered() {
      return forMany && lacking() == 0;
    }
  }

  /** What is done at a till: a gift or a hold, and which tills see it. */
  private abstract static class Deed {
    final Wish of;
    final Guest by;
    final int till;
    final int since;
    /** Whether it is seen by all that are joined, or later will be. */
    private boolean open;
    /** A bit for each till that sees it; one that goes apart keeps its bit. */
    private int seers;

    Deed(Wish of, Guest by, int till, int since) {
      this.of = of;
      this.by = by;
      this.till = till;
      this.since = since;
      this.seers = 1 << till;
    }

    final boolean isOpen() {
      return open;
    }

    final boolean isSeenAt(int asked) {
      return (seers >> asked & 1) != 0;
    }

    final void showTo(int joinedTills) {
      if ((joinedTills >> till & 1) != 0) {
        open = true;
      }
      if (open) {
        seers |= joinedTills;
      }
    }
  }

  private static final class Gift extends Deed {
    final int number;
    final int paid;
    int state;

    Gift(int number, Wish of, Guest by, int till, int since, int paid) {
      super(of, by, till, since);
      this.number = number;
      this.paid = paid;
      this.state = KEPT;
    }

    boolean isKept() {
      return state == KEPT;
    }

    boolean isBehind(Gift other) {
      if (since != other.since) {
        return since > other.since;
      }
      if (till != other.till) {
        return till > other.till;
      }
      return number > other.number;
    }
  }

  private static final class Hold extends Deed {
    final int minutes;
    boolean used;

    Hold(Wish of, Guest by, int till, int since, int minutes) {
      super(of, by, till, since);
      this.minutes = minutes;
    }

    boolean standsAt(int now) {
      return !used && !of.struck && now - since < minutes;
    }
  }

  public Tureenlist() {
    wishes = new ArrayList<Wish>();
    guests = new ArrayList<Guest>();
    gifts = new ArrayList<Gift>();
    holds = new ArrayList<Hold>();
    joined = ALL_TILLS;
  }

  // ---- the list

  public int wish(int count, int price) throws IllegalArgumentException, IllegalStateException {
    if (count < 1 || count > MOST_COUNT) {
      throw new IllegalArgumentException("count is not 1 to 5");
    }
    if (price < 1 || price > MOST_PRICE) {
      throw new IllegalArgumentException("price is not 1 to 999");
    }
    return addWish(count, price, false);
  }

  public int shared(int price) throws IllegalArgumentException, IllegalStateException {
    if (price < 1 || price > MOST_PENCE) {
      throw new IllegalArgumentException("price is not 1 to 9999");
    }
    return addWish(1, price, true);
  }

  private int addWish(int count, int price, boolean forMany) {
    refuseIfCalledOff();
    int number = wishes.size();
    if (number >= MOST_WISHES) {
      throw new IllegalStateException("there are 8 wishes");
    }
    wishes.add(new Wish(number, count, price, forMany));
    return number;
  }

  public int guest(int purse) throws IllegalArgumentException, IllegalStateException {
    if (purse < 0 || purse > MOST_PENCE) {
      throw new IllegalArgumentException("purse is not 0 to 9999");
    }
    int number = guests.size();
    if (number >= MOST_GUESTS) {
      throw new IllegalStateException("there are 6 guests");
    }
    guests.add(new Guest(number, purse));
    return number;
  }

  public int price(int wish, int price)
      throws IndexOutOfBoundsException, IllegalArgumentException, IllegalStateException {
    Wish of = wishNumbered(wish);
    if (price < 1 || price > (of.forMany ? MOST_PENCE : MOST_PRICE)) {
      throw new IllegalArgumentException("price is out of its range");
    }
    refuseIfSettled(of);
    of.cost = price;
    return sendPledgesBack(of, of.pledged() - price);
  }

  public int strike(int wish) throws IndexOutOfBoundsException, IllegalStateException {
    Wish of = wishNumbered(wish);
    refuseIfSettled(of);
    of.struck = true;
    return sendPledgesBack(of, of.pledged());
  }

  // ---- tills

  public int apart(int till) throws IndexOutOfBoundsException, IllegalStateException {
    checkTill(till);
    refuseIfCalledOff();
    if (!isJoined(till)) {
      throw new IllegalStateException("the till is apart");
    }
    joined &= ~(1 << till);
    return Integer.bitCount(joined);
  }

  public int join(int till) throws IndexOutOfBoundsException, IllegalStateException {
    checkTill(till);
    refuseIfCalledOff();
    if (isJoined(till)) {
      throw new IllegalStateException("the till is joined");
    }
    joined |= 1 << till;
    showAllDeeds();
    int taken = 0;
    for (int w = 0; w < wishes.size(); w++) {
      taken += takeBackTooMany(wishes.get(w), till);
    }
    return taken;
  }

  public int hold(int till, int guest, int wish, int minutes)
      throws IndexOutOfBoundsException, IllegalArgumentException, IllegalStateException {
    checkTill(till);
    Guest by = guestNumbered(guest);
    Wish of = wishNumbered(wish);
    if (minutes < 1 || minutes > MOST_MINUTES_HELD) {
      throw new IllegalArgumentException("minutes is not 1 to 60");
    }
    refuseIfCalledOff();
    int number = holds.size();
    if (number >= MOST_HOLDS) {
      throw new IllegalStateException("there were 20 holds");
    }
    if (leftAt(till, of) == 0) {
      throw new IllegalStateException("nothing is left there");
    }
    Hold one = new Hold(of, by, till, minute, minutes);
    one.showTo(joined);
    holds.add(one);
    return number;
  }

  public int buy(int till, int guest, int wish)
      throws IndexOutOfBoundsException, IllegalStateException {
    checkTill(till);
    Guest by = guestNumbered(guest);
    Wish of = wishNumbered(wish);
    refuseIfCalledOff();
    if (of.forMany || of.struck) {
      throw new IllegalStateException("the wish is shared or struck");
    }
    int number = gifts.size();
    if (number >= MOST_GIFTS) {
      throw new IllegalStateException("there were 40 gifts");
    }
    if (by.purse < of.cost) {
      throw new IllegalStateException("the purse has less than the price");
    }
    takePiece(till, by, of);
    pay(by, of.cost);
    Gift one = new Gift(number, of, by, till, minute, of.cost);
    one.showTo(joined);
    gifts.add(one);
    return number;
  }

  public int giveBack(int guest, int wish) throws IndexOutOfBoundsException, IllegalStateException {
    Guest by = guestNumbered(guest);
    Wish of = wishNumbered(wish);
    refuseIfCalledOff();
    for (int i = gifts.size() - 1; i >= 0; i--) {
      Gift one = gifts.get(i);
      if (one.isKept() && one.by == by && one.of == of) {
        if (minute - one.since > MINUTES_TO_GIVE_BACK) {
          throw new IllegalStateException("the gift was bought too long ago");
        }
        return endGift(one, GIVEN_BACK);
      }
    }
    throw new IllegalStateException("there is no such gift");
  }

  public int pledge(int guest, int wish, int pence)
      throws IndexOutOfBoundsException, IllegalArgumentException, IllegalStateException {
    Guest by = guestNumbered(guest);
    Wish of = wishNumbered(wish);
    if (pence < 1 || pence > MOST_PENCE) {
      throw new IllegalArgumentException("pence is not 1 to 9999");
    }
    refuseIfSettled(of);
    if (!of.forMany) {
      throw new IllegalStateException("the wish is not shared");
    }
    if (by.purse < pence) {
      throw new IllegalStateException("the purse has less than that");
    }
    int part = Math.min(pence, of.lacking());
    pay(by, part);
    of.pledges.add(new Pledge(by, part));
    return part;
  }

  public int pass(int minutes) throws IllegalArgumentException, IllegalStateException {
    if (minutes < 1 || minutes > MOST_MINUTES_PASSED) {
      throw new IllegalArgumentException("minutes is not 1 to 500");
    }
    if (minute + minutes > LAST_MINUTE) {
      throw new IllegalStateException("the minute would be above 9999");
    }
    minute += minutes;
    return holdsStanding();
  }

  public int callOff() throws IllegalStateException {
    refuseIfCalledOff();
    calledOff = true;
    int pence = 0;
    for (int i = 0; i < gifts.size(); i++) {
      Gift one = gifts.get(i);
      if (one.isKept()) {
        pence += endGift(one, GIVEN_BACK);
      }
    }
    for (int w = 0; w < wishes.size(); w++) {
      Wish of = wishes.get(w);
      pence += sendPledgesBack(of, of.pledged());
    }
    return pence;
  }

  // ---- what is asked

  public int ofWish(int wish, int what) throws IndexOutOfBoundsException, IllegalArgumentException {
    Wish of = wishNumbered(wish);
    switch (what) {
      case 0:
        return of.count;
      case 1:
        return of.cost;
      case 2:
        return oneIf(of.forMany);
      case 3:
        return oneIf(of.struck);
      case 4:
        return giftsOf(of, KEPT);
      case 5:
        return giftsOf(of, TAKEN_BACK);
      case 6:
        return of.pledged();
      case 7:
        return of.lacking();
      case 8:
        return oneIf(of.isOrdered());
      default:
        throw new IllegalArgumentException("what is not 0 to 8");
    }
  }

  public int ofGuest(int guest, int what)
      throws IndexOutOfBoundsException, IllegalArgumentException {
    Guest by = guestNumbered(guest);
    switch (what) {
      case 0:
        return by.purse;
      case 1:
        return giftsBy(by, KEPT);
      case 2:
        return paidForKeptBy(by);
      case 3:
        return pledgedBy(by);
      case 4:
        return giftsBy(by, TAKEN_BACK);
      case 5:
        return holdsStandingOf(by);
      default:
        throw new IllegalArgumentException("what is not 0 to 5");
    }
  }

  public int left(int till, int wish) throws IndexOutOfBoundsException {
    checkTill(till);
    return leftAt(till, wishNumbered(wish));
  }

  public int ofTill(int till, int what) throws IndexOutOfBoundsException, IllegalArgumentException {
    checkTill(till);
    switch (what) {
      case 0:
        return oneIf(isJoined(till));
      case 1:
        return keptBoughtAt(till);
      case 2:
        return holdsStandingSeenAt(till);
      case 3:
        return keptSeenAt(till);
      case 4:
        takeStock(till);
        return fillBy(guestsWithoutPart(), NONE);
      case 5:
        return allLeftAt(till);
      default:
        throw new IllegalArgumentException("what is not 0 to 5");
    }
  }

  public int ofGift(int gift, int what) throws IndexOutOfBoundsException, IllegalArgumentException {
    if (gift < 0 || gift >= gifts.size()) {
      throw new IndexOutOfBoundsException("there is no such gift");
    }
    Gift one = gifts.get(gift);
    switch (what) {
      case 0:
        return one.of.number;
      case 1:
        return one.by.number;
      case 2:
        return one.till;
      case 3:
        return one.since;
      case 4:
        return one.paid;
      case 5:
        return one.state;
      default:
        throw new IllegalArgumentException("what is not 0 to 5");
    }
  }

  public int shop(int what) throws IllegalArgumentException {
    switch (what) {
      case 0:
        return minute;
      case 1:
        return wishes.size();
      case 2:
        return guests.size();
      case 3:
        return gifts.size();
      case 4:
        return giftsNow(KEPT);
      case 5:
        return giftsNow(TAKEN_BACK);
      case 6:
        return giftsNow(GIVEN_BACK);
      case 7:
        return paidEver;
      case 8:
        return wentBackEver;
      case 9:
        return holds.size();
      case 10:
        return holdsStanding();
      case 11:
        return oneIf(calledOff);
      default:
        throw new IllegalArgumentException("what is not 0 to 11");
    }
  }

  public String card(int wish) throws IndexOutOfBoundsException {
    Wish of = wishNumbered(wish);
    StringBuilder names = new StringBuilder();
    for (int i = 0; i < gifts.size(); i++) {
      Gift one = gifts.get(i);
      if (one.isKept() && one.of == of) {
        names.append(one.by.number);
      }
    }
    if (!of.pledges.isEmpty()) {
      names.append('+');
    }
    for (int g = 0; g < guests.size(); g++) {
      if (of.pledgedBy(guests.get(g)) > 0) {
        names.append(g);
      }
    }
    return names.length() == 0 ? "none" : names.toString();
  }

  // ---- what would be

  public int wouldTake(int till) throws IndexOutOfBoundsException {
    checkTill(till);
    if (isJoined(till)) {
      return 0;
    }
    int taken = 0;
    for (int w = 0; w < wishes.size(); w++) {
      taken += tooManyWith(wishes.get(w), till);
    }
    return taken;
  }

  public int hint(int guest, int till) throws IndexOutOfBoundsException {
    Guest asker = guestNumbered(guest);
    checkTill(till);
    takeStock(till);
    int others = guestsWithoutPart() & ~(1 << asker.number);
    int wholeFill = fillBy(others, NONE);
    int cheapest = NONE;
    int lowest = MOST_PENCE + 1;
    int dearest = NONE;
    int highest = 0;
    for (int w = 0; w < wishes.size(); w++) {
      Wish of = wishes.get(w);
      if (of.stock == 0 || of.cost > asker.purse) {
        continue;
      }
      if (of.cost > highest) {
        dearest = w;
        highest = of.cost;
      }
      if (of.cost < lowest && fillBy(others, w) == wholeFill) {
        cheapest = w;
        lowest = of.cost;
      }
    }
    return cheapest == NONE ? dearest : cheapest;
  }

  public boolean isSound() {
    return noneTooManyIfAllJoined()
        && paidEver == paidForKept() + pledgedNow() + wentBackEver
        && noPurseBelowZero()
        && noOrderedLacks()
        && joinedTillsSeeAlike();
  }

  public long digest() {
    long d = DIGEST_START;
    for (int what = 0; what < SHOP_NUMBERS; what++) {
      d = d * 31 + shop(what);
    }
    for (int w = 0; w < wishes.size(); w++) {
      for (int what = 0; what < WISH_NUMBERS; what++) {
        d = d * 31 + ofWish(w, what);
      }
    }
    for (int g = 0; g < guests.size(); g++) {
      for (int what = 0; what < GUEST_NUMBERS; what++) {
        d = d * 31 + ofGuest(g, what);
      }
    }
    for (int till = 0; till < TILLS; till++) {
      d = digestTill(d, till);
    }
    for (int i = 0; i < gifts.size(); i++) {
      d = d * 31 + ofGift(i, GIFT_STATE);
    }
    return d * 31 + oneIf(isSound());
  }

  private long digestTill(long before, int till) {
    long d = before;
    for (int what = 0; what < TILL_NUMBERS; what++) {
      d = d * 31 + ofTill(till, what);
    }
    for (int w = 0; w < wishes.size(); w++) {
      d = d * 31 + left(till, w);
    }
    for (int g = 0; g < guests.size(); g++) {
      d = d * 31 + hint(g, till);
    }
    return d * 31 + wouldTake(till);
  }

  // ---- what is refused

  private static void checkTill(int till) {
    if (till < 0 || till >= TILLS) {
      throw new IndexOutOfBoundsException("there is no such till");
    }
  }

  private Wish wishNumbered(int wish) {
    if (wish < 0 || wish >= wishes.size()) {
      throw new IndexOutOfBoundsException("there is no such wish");
    }
    return wishes.get(wish);
  }

  private Guest guestNumbered(int guest) {
    if (guest < 0 || guest >= guests.size()) {
      throw new IndexOutOfBoundsException("there is no such guest");
    }
    return guests.get(guest);
  }

  private void refuseIfCalledOff() {
    if (calledOff) {
      throw new IllegalStateException("it is called off");
    }
  }

  private void refuseIfSettled(Wish of) {
    refuseIfCalledOff();
    if (of.struck) {
      throw new IllegalStateException("the wish is struck");
    }
    if (of.isOrdered()) {
      throw new IllegalStateException("the wish is ordered");
    }
  }

  // ---- money

  private void pay(Guest by, int pence) {
    by.purse -= pence;
    paidEver += pence;
  }

  private void payBack(Guest to, int pence) {
    to.purse += pence;
    wentBackEver += pence;
  }

  private int endGift(Gift one, int state) {
    one.state = state;
    payBack(one.by, one.paid);
    return one.paid;
  }

  /** Sends that many pence back, if it is above 0, from the last pledge on; answers how many went. */
  private int sendPledgesBack(Wish of, int pence) {
    int rest = Math.max(0, pence);
    int went = 0;
    for (int i = of.pledges.size() - 1; i >= 0 && rest > 0; i--) {
      Pledge last = of.pledges.get(i);
      int part = Math.min(last.pence, rest);
      payBack(last.by, part);
      rest -= part;
      went += part;
      last.pence -= part;
      if (last.pence == 0) {
        of.pledges.remove(i);
      }
    }
    return went;
  }

  // ---- what the tills see

  private boolean isJoined(int till) {
    return (joined >> till & 1) != 0;
  }

  private void showAllDeeds() {
    for (int i = 0; i < gifts.size(); i++) {
      gifts.get(i).showTo(joined);
    }
    for (int i = 0; i < holds.size(); i++) {
      holds.get(i).showTo(joined);
    }
  }

  /** How many would be kept above the count among those that the joined tills and this one see. */
  private int tooManyWith(Wish of, int till) {
    int kept = 0;
    for (int i = 0; i < gifts.size(); i++) {
      Gift one = gifts.get(i);
      if (one.isKept() && one.of == of && (one.isOpen() || one.till == till)) {
        kept++;
      }
    }
    return Math.max(0, kept - of.count);
  }

  private int takeBackTooMany(Wish of, int till) {
    int tooMany = tooManyWith(of, till);
    for (int n = 0; n < tooMany; n++) {
      takeBackLast(of);
    }
    return tooMany;
  }

  private void takeBackLast(Wish of) {
    int last = NONE;
    for (int i = 0; i < gifts.size(); i++) {
      Gift one = gifts.get(i);
      if (one.isKept() && one.of == of && one.isOpen()
          && (last == NONE || one.isBehind(gifts.get(last)))) {
        last = i;
      }
    }
    if (last != NONE) {
      endGift(gifts.get(last), TAKEN_BACK);
    }
  }

  private int keptOfSeenAt(int till, Wish of) {
    int kept = 0;
    for (int i = 0; i < gifts.size(); i++) {
      Gift one = gifts.get(i);
      if (one.isKept() && one.of == of && one.isSeenAt(till)) {
        kept++;
      }
    }
    return kept;
  }

  private int leftAt(int till, Wish of) {
    if (of.forMany || of.struck) {
      return 0;
    }
    int pieces = of.count - keptOfSeenAt(till, of);
    for (int i = 0; i < holds.size(); i++) {
      Hold one = holds.get(i);
      if (one.of == of && one.standsAt(minute) && one.isSeenAt(till)) {
        pieces--;
      }
    }
    return Math.max(0, pieces);
  }

  private int allLeftAt(int till) {
    int pieces = 0;
    for (int w = 0; w < wishes.size(); w++) {
      pieces += leftAt(till, wishes.get(w));
    }
    return pieces;
  }

  /** Uses the guest's oldest hold that serves there, or else asks for one that is left. */
  private void takePiece(int till, Guest by, Wish of) {
    int number = servingHold(till, by, of);
    if (number != NONE) {
      holds.get(number).used = true;
    } else if (leftAt(till, of) == 0) {
      throw new IllegalStateException("nothing is left there and no hold serves");
    }
  }

  private int servingHold(int till, Guest by, Wish of) {
    if (keptOfSeenAt(till, of) >= of.count) {
      return NONE;
    }
    for (int i = 0; i < holds.size(); i++) {
      Hold one = holds.get(i);
      if (one.by == by && one.of == of && one.standsAt(minute) && one.isSeenAt(till)) {
        return i;
      }
    }
    return NONE;
  }

  // ---- FILL

  private void takeStock(int till) {
    for (int w = 0; w < wishes.size(); w++) {
      Wish of = wishes.get(w);
      of.stock = leftAt(till, of);
    }
  }

  /** A bit for each guest who has neither a kept gift nor a pledge. */
  private int guestsWithoutPart() {
    int bits = 0;
    for (int g = 0; g < guests.size(); g++) {
      Guest by = guests.get(g);
      if (giftsBy(by, KEPT) == 0 && pledgedBy(by) == 0) {
        bits |= 1 << g;
      }
    }
    return bits;
  }

  /**
   * The most pieces of the stock, but for one of the wish without, that the buyers can take.
   * Who can pay a piece can pay each cheaper one. So whoever is chosen as a mark, all that is bought
   * goes to those with more in their purse, or is a piece within the mark's purse; and the narrowest
   * of these bounds is reached, as the poorest buyers choose first, each the cheapest piece.
   */
  private int fillBy(int buyers, int without) {
    int most = Integer.bitCount(buyers);
    for (int g = 0; g < guests.size(); g++) {
      if ((buyers >> g & 1) != 0) {
        int purse = guests.get(g).purse;
        most = Math.min(most, buyersAbove(buyers, purse) + stockWithin(purse, without));
      }
    }
    return most;
  }

  private int buyersAbove(int buyers, int purse) {
    int above = 0;
    for (int g = 0; g < guests.size(); g++) {
      if ((buyers >> g & 1) != 0 && guests.get(g).purse > purse) {
        above++;
      }
    }
    return above;
  }

  private int stockWithin(int purse, int without) {
    int pieces = 0;
    for (int w = 0; w < wishes.size(); w++) {
      Wish of = wishes.get(w);
      if (of.cost <= purse) {
        pieces += w == without ? of.stock - 1 : of.stock;
      }
    }
    return pieces;
  }

  // ---- counts and sums

  private static int oneIf(boolean is) {
    return is ? 1 : 0;
  }

  private int giftsNow(int state) {
    int n = 0;
    for (int i = 0; i < gifts.size(); i++) {
      n += oneIf(gifts.get(i).state == state);
    }
    return n;
  }

  private int giftsOf(Wish of, int state) {
    int n = 0;
    for (int i = 0; i < gifts.size(); i++) {
      Gift one = gifts.get(i);
      n += oneIf(one.state == state && one.of == of);
    }
    return n;
  }

  private int giftsBy(Guest by, int state) {
    int n = 0;
    for (int i = 0; i < gifts.size(); i++) {
      Gift one = gifts.get(i);
      n += oneIf(one.state == state && one.by == by);
    }
    return n;
  }

  private int keptBoughtAt(int till) {
    int n = 0;
    for (int i = 0; i < gifts.size(); i++) {
      Gift one = gifts.get(i);
      n += oneIf(one.isKept() && one.till == till);
    }
    return n;
  }

  private int keptSeenAt(int till) {
    int n = 0;
    for (int i = 0; i < gifts.size(); i++) {
      Gift one = gifts.get(i);
      n += oneIf(one.isKept() && one.isSeenAt(till));
    }
    return n;
  }

  private int holdsStanding() {
    int n = 0;
    for (int i = 0; i < holds.size(); i++) {
      n += oneIf(holds.get(i).standsAt(minute));
    }
    return n;
  }

  private int holdsStandingOf(Guest by) {
    int n = 0;
    for (int i = 0; i < holds.size(); i++) {
      Hold one = holds.get(i);
      n += oneIf(one.by == by && one.standsAt(minute));
    }
    return n;
  }

  private int holdsStandingSeenAt(int till) {
    int n = 0;
    for (int i = 0; i < holds.size(); i++) {
      Hold one = holds.get(i);
      n += oneIf(one.standsAt(minute) && one.isSeenAt(till));
    }
    return n;
  }

  private int paidForKeptBy(Guest by) {
    int pence = 0;
    for (int i = 0; i < gifts.size(); i++) {
      Gift one = gifts.get(i);
      if (one.isKept() && one.by == by) {
        pence += one.paid;
      }
    }
    return pence;
  }

  private int paidForKept() {
    int pence = 0;
    for (int g = 0; g < guests.size(); g++) {
      pence += paidForKeptBy(guests.get(g));
    }
    return pence;
  }

  private int pledgedBy(Guest by) {
    int pence = 0;
    for (int w = 0; w < wishes.size(); w++) {
      pence += wishes.get(w).pledgedBy(by);
    }
    return pence;
  }

  private int pledgedNow() {
    int pence = 0;
    for (int w = 0; w < wishes.size(); w++) {
      pence += wishes.get(w).pledged();
    }
    return pence;
  }

  // ---- what is SOUND

  private boolean noneTooManyIfAllJoined() {
    if (joined != ALL_TILLS) {
      return true;
    }
    for (int w = 0; w < wishes.size(); w++) {
      Wish of = wishes.get(w);
      if (giftsOf(of, KEPT) > of.count) {
        return false;
      }
    }
    return true;
  }

  private boolean noPurseBelowZero() {
    for (int g = 0; g < guests.size(); g++) {
      if (guests.get(g).purse < 0) {
        return false;
      }
    }
    return true;
  }

  private boolean noOrderedLacks() {
    for (int w = 0; w < wishes.size(); w++) {
      Wish of = wishes.get(w);
      if (of.isOrdered() && of.lacking() > 0) {
        return false;
      }
    }
    return true;
  }

  private boolean joinedTillsSeeAlike() {
    int seen = NONE;
    for (int till = 0; till < TILLS; till++) {
      if (!isJoined(till)) {
        continue;
      }
      int here = keptSeenAt(till);
      if (seen != NONE && here != seen) {
        return false;
      }
      seen = here;
    }
    return true;
  }
}
