/** The document's part 1, and its MINUTE: each sentence that names a limit, at it, below it, above it. */
public final class ListEdgesTest {
  private static final Checks checks = new Checks();

  private static void edge(String sentence, String... calls) {
    Run.check(checks, sentence, calls);
  }

  public static void main(String[] args) {
    empty();
    full();
    minutes();
    wishes();
    sharedWishes();
    struck();
    guests();
    checks.end();
  }

  private static void empty() {
    edge("A new list is without WISHES",
        "shop 0 = 0; shop 1 = 0; shop 2 = 0; shop 3 = 0; shop 4 = 0; shop 5 = 0; shop 6 = 0; shop 7 = 0",
        "shop 8 = 0; shop 9 = 0; shop 10 = 0; shop 11 = 0; isSound = true");
    edge("A new list has no WISH to be asked or changed",
        "ofWish 0 0 ! index; card 0 ! index; left 0 0 ! index; price 0 1 ! index; strike 0 ! index");
    edge("A new list has no GUEST and no GIFT", "ofGuest 0 0 ! index; hint 0 0 ! index; ofGift 0 0 ! index");
    edge("A new list's TILLS have nothing",
        "ofTill 0 0 = 1; ofTill 0 1 = 0; ofTill 1 2 = 0; ofTill 2 3 = 0; ofTill 0 4 = 0; ofTill 0 5 = 0",
        "wouldTake 0 = 0");
    edge("GUESTS without WISHES",
        "guest 5; guest 6; hint 0 0 = -1; hint 1 2 = -1; ofTill 0 4 = 0; buy 0 0 0 ! index",
        "hold 0 0 0 1 ! index; pledge 0 0 1 ! index; giveBack 0 0 ! index");
    edge("WISHES without GUESTS",
        "wish 2 5; shared 6; ofTill 0 4 = 0; ofTill 0 5 = 2; card 0 = none; hint 0 0 ! index",
        "buy 0 0 0 ! index; hold 0 0 0 1 ! index; pledge 0 1 1 ! index");
    edge("NONE is -1", "guest 9; wish 1 10; hint 0 0 = -1");
    edge("An empty list can be called off", "callOff = 0; shop 11 = 1; callOff ! state");
  }

  private static void full() {
    edge("A full list: 8 WISHES, 6 GUESTS, 40 GIFTS, 20 HOLDS at once",
        "5 * wish 5 100; 3 * wish 5 1; 5 * guest 9999; guest 0; 5 * buy 0 0 0; 5 * buy 1 1 1; 5 * buy 2 2 2",
        "5 * buy 0 3 3; 5 * buy 1 4 4; apart 2; 5 * hold 0 0 5 60; 5 * hold 0 1 6 60; 5 * hold 2 2 5 60",
        "5 * hold 2 3 7 60; shop 9 = 20; 5 * buy 0 0 5; 5 * buy 1 1 6; 5 * buy 0 4 7; shop 3 = 40",
        "shop 10 = 10; wish 1 1 ! state; shared 1 ! state; guest 1 ! state; hold 0 0 0 1 ! state",
        "buy 2 2 5 ! state; left 0 7 = 0; left 2 7 = 0; left 2 6 = 5; ofTill 2 5 = 5; ofTill 0 5 = 0",
        "ofTill 2 4 = 0; wouldTake 2 = 0; join 2 = 0; shop 10 = 10; card 7 = 44444; ofGift 39 0 = 7",
        "ofGift 40 0 ! index");
  }

  private static void minutes() {
    edge("MINUTE is 0 at first", "shop 0 = 0");
    edge("MINUTE is 9999 at most: up to it",
        "19 * pass 500; pass 499 = 0; shop 0 = 9999; pass 1 ! state; pass 500 ! state; shop 0 = 9999");
    edge("MINUTE is 9999 at most: above it",
        "19 * pass 500; pass 500 ! state; shop 0 = 9500; pass 499 = 0; shop 0 = 9999");
    edge("MINUTE is 9999 at most: below it",
        "19 * pass 500; pass 498; shop 0 = 9998; pass 2 ! state; pass 1 = 0; shop 0 = 9999");
    edge("At MINUTE 9999 all but pass goes on",
        "wish 3 5; guest 20; 19 * pass 500; pass 499; buy 0 0 0 = 0; ofGift 0 3 = 9999; hold 0 0 0 60 = 0",
        "pass 1 ! state; shop 10 = 1; giveBack 0 0 = 5");
    edge("pass: minutes is 1 to 500: too small",
        "pass 0 ! argument; pass -1 ! argument; pass lowest ! argument");
    edge("pass: minutes is 1 to 500: least", "pass 1 = 0; shop 0 = 1; pass 2 = 0; shop 0 = 3");
    edge("pass: minutes is 1 to 500: most", "pass 499 = 0; shop 0 = 499; pass 500 = 0; shop 0 = 999");
    edge("pass: minutes is 1 to 500: too great", "pass 501 ! argument; pass highest ! argument; shop 0 = 0");
  }

  private static void wishes() {
    edge("WISHES are at most 8, numbered from 0",
        "wish 1 1 = 0; wish 1 1 = 1; 5 * wish 1 1; shop 1 = 7; wish 1 1 = 7; wish 1 1 ! state; shop 1 = 8");
    edge("WISHES are at most 8, SHARED ones among them",
        "3 * shared 1; 4 * wish 1 1; shared 1 = 7; wish 1 1 ! state; shared 1 ! state; shop 1 = 8");
    edge("WISHES are at most 8, STRUCK ones among them",
        "7 * wish 1 1; strike 0; strike 6; wish 1 1 = 7; wish 1 1 ! state; shared 1 ! state");
    edge("COUNT is 1 to 5: too small",
        "wish 0 10 ! argument; wish -1 10 ! argument; wish lowest 10 ! argument; shop 1 = 0");
    edge("COUNT is 1 to 5: least", "wish 1 10 = 0; ofWish 0 0 = 1; wish 2 10 = 1; ofWish 1 0 = 2");
    edge("COUNT is 1 to 5: most",
        "wish 5 10 = 0; ofWish 0 0 = 5; wish 4 10 = 1; ofWish 1 0 = 4; left 0 0 = 5");
    edge("COUNT is 1 to 5: too great", "wish 6 10 ! argument; wish highest 10 ! argument; shop 1 = 0");
    edge("PRICE is 1 to 999: too small",
        "wish 1 0 ! argument; wish 1 -1 ! argument; wish 1 lowest ! argument; shop 1 = 0");
    edge("PRICE is 1 to 999: least", "wish 1 1 = 0; ofWish 0 1 = 1; wish 1 2 = 1; ofWish 1 1 = 2");
    edge("PRICE is 1 to 999: most", "wish 1 999 = 0; ofWish 0 1 = 999; wish 1 998 = 1; ofWish 1 1 = 998");
    edge("PRICE is 1 to 999: too great", "wish 1 1000 ! argument; wish 1 highest ! argument; shop 1 = 0");
    edge("A PRICE that is told is 1 to 999",
        "wish 1 50; price 0 0 ! argument; price 0 -1 ! argument; price 0 lowest ! argument; ofWish 0 1 = 50",
        "price 0 1 = 0; ofWish 0 1 = 1; price 0 2 = 0; price 0 998 = 0; price 0 999 = 0; ofWish 0 1 = 999",
        "price 0 1000 ! argument; price 0 highest ! argument; ofWish 0 1 = 999");
  }

  private static void sharedWishes() {
    edge("SHARED: one", "shared 50 = 0; ofWish 0 0 = 1; ofWish 0 2 = 1; wish 1 50 = 1; ofWish 1 2 = 0");
    edge("SHARED, with a PRICE of 1 to 9999: too small",
        "shared 0 ! argument; shared -1 ! argument; shared lowest ! argument; shop 1 = 0");
    edge("SHARED, with a PRICE of 1 to 9999: least",
        "shared 1 = 0; ofWish 0 1 = 1; shared 2 = 1; ofWish 1 1 = 2");
    edge("SHARED, with a PRICE of 1 to 9999: most",
        "shared 9999 = 0; ofWish 0 1 = 9999; shared 9998 = 1; ofWish 1 1 = 9998; shared 1000 = 2");
    edge("SHARED, with a PRICE of 1 to 9999: too great",
        "shared 10000 ! argument; shared highest ! argument; shop 1 = 0");
    edge("A PRICE that is told of a SHARED one is 1 to 9999",
        "shared 50; price 0 0 ! argument; price 0 -1 ! argument; price 0 lowest ! argument; ofWish 0 1 = 50",
        "price 0 1 = 0; price 0 999 = 0; price 0 1000 = 0; price 0 9998 = 0; price 0 9999 = 0",
        "ofWish 0 1 = 9999; price 0 10000 ! argument; price 0 highest ! argument; ofWish 0 1 = 9999");
  }

  private static void struck() {
    edge("Nothing of a STRUCK one is bought any more",
        "wish 2 10; guest 50; buy 0 0 0; strike 0 = 0; ofWish 0 3 = 1; buy 0 0 0 ! state; ofGuest 0 0 = 40");
    edge("Nothing of a STRUCK one is held any more",
        "wish 2 10; guest 50; hold 0 0 0 5 = 0; strike 0; hold 0 0 0 5 ! state; shop 9 = 1");
    edge("Nothing of a STRUCK one is pledged any more",
        "shared 10; guest 50; strike 0; pledge 0 0 1 ! state; pledge 0 0 10 ! state; ofGuest 0 0 = 50");
    edge("STRUCK for good",
        "wish 1 10; strike 0 = 0; strike 0 ! state; pass 500; ofWish 0 3 = 1; price 0 5 ! state");
    edge("STRUCK for good, a SHARED one",
        "shared 10; strike 0 = 0; strike 0 ! state; price 0 5 ! state; ofWish 0 1 = 10");
    edge("Another one is not STRUCK by it",
        "wish 1 10; wish 1 10; guest 50; strike 0; ofWish 1 3 = 0; left 0 1 = 1; buy 0 0 1 = 0");
    edge("What was KEPT of a STRUCK one stays KEPT",
        "wish 1 10; guest 50; buy 0 0 0; strike 0 = 0; ofWish 0 4 = 1; card 0 = 0; ofGuest 0 2 = 10");
  }

  private static void guests() {
    edge("GUESTS are at most 6, numbered from 0",
        "guest 1 = 0; guest 1 = 1; 3 * guest 1; shop 2 = 5; guest 1 = 5; guest 1 ! state; shop 2 = 6");
    edge("A PURSE is 0 to 9999 at first: too small",
        "guest -1 ! argument; guest lowest ! argument; shop 2 = 0");
    edge("A PURSE is 0 to 9999 at first: least",
        "guest 0 = 0; ofGuest 0 0 = 0; guest 1 = 1; ofGuest 1 0 = 1");
    edge("A PURSE is 0 to 9999 at first: most",
        "guest 9999 = 0; ofGuest 0 0 = 9999; guest 9998 = 1; ofGuest 1 0 = 9998");
    edge("A PURSE is 0 to 9999 at first: too great",
        "guest 10000 ! argument; guest highest ! argument; shop 2 = 0");
  }
}
