/**
 * The lines "Throws .." of each promise: each reason by itself, and which exception it is where several
 * apply. Run looks behind each refused call whether anything has changed.
 */
public final class RefusalsTest {
  private static final Checks checks = new Checks();

  private static void edge(String sentence, String... calls) {
    Run.check(checks, sentence, calls);
  }

  public static void main(String[] args) {
    wish();
    shared();
    guest();
    price();
    strike();
    apart();
    join();
    hold();
    buy();
    giveBack();
    pledge();
    pass();
    callOff();
    whatIsAsked();
    numbersOfGifts();
    checks.end();
  }

  private static void wish() {
    edge("wish: count before all",
        "7 * wish 1 1; wish 0 1 ! argument; wish 6 0 ! argument; wish 1 1 = 7; wish 0 1 ! argument",
        "wish 6 1 ! argument; wish 1 1 ! state");
    edge("wish: price before there are 8",
        "8 * wish 1 1; wish 1 0 ! argument; wish 1 1000 ! argument; wish 5 999 ! state");
    edge("wish: wrong, and CALLED OFF",
        "callOff; wish 0 1 ! argument; wish 1 1000 ! argument; wish 1 1 ! state");
    edge("wish: 8, CALLED OFF, and wrong", "8 * wish 1 1; callOff; wish 1 1 ! state; wish -1 -1 ! argument");
  }

  private static void shared() {
    edge("shared: price before there are 8",
        "8 * shared 1; shared 0 ! argument; shared 10000 ! argument; shared 9999 ! state");
    edge("shared: wrong, and CALLED OFF",
        "callOff; shared 0 ! argument; shared 10000 ! argument; shared 1 ! state");
  }

  private static void guest() {
    edge("guest: purse before there are 6",
        "6 * guest 1; guest -1 ! argument; guest 10000 ! argument; guest 0 ! state; guest 9999 ! state");
    edge("guest: CALLED OFF is no reason",
        "callOff; guest -1 ! argument; guest 0 = 0; guest 10000 ! argument; 5 * guest 1; guest 1 ! state");
  }

  private static void price() {
    edge("price: no such WISH before the price",
        "wish 1 10; price -1 0 ! index; price 1 0 ! index; price 1 1000 ! index; price 0 0 ! argument",
        "price lowest 5 ! index; price highest 5 ! index");
    edge("price: ORDERED",
        "shared 10; guest 10; pledge 0 0 10; price 0 5 ! state; price 0 0 ! argument",
        "price 0 10000 ! argument; price 1 5 ! index; price 0 10 ! state");
    edge("price: STRUCK",
        "wish 1 10; strike 0; price 0 5 ! state; price 0 0 ! argument; price 0 1000 ! argument",
        "price 1 5 ! index");
    edge("price: CALLED OFF",
        "wish 1 10; shared 10; callOff; price 0 5 ! state; price 0 1000 ! argument; price 1 1000 ! state",
        "price 1 10000 ! argument; price 2 0 ! index");
  }

  private static void strike() {
    edge("strike: no such WISH",
        "strike 0 ! index; wish 1 10; strike -1 ! index; strike 1 ! index; strike lowest ! index",
        "strike highest ! index; strike 0 = 0");
    edge("strike: STRUCK", "wish 1 10; strike 0 = 0; strike 0 ! state; strike 1 ! index");
    edge("strike: ORDERED",
        "shared 10; guest 10; pledge 0 0 9; pledge 0 0 1; strike 0 ! state; strike 1 ! index");
    edge("strike: not quite ORDERED", "shared 10; guest 10; pledge 0 0 9; strike 0 = 9; ofGuest 0 0 = 10");
    edge("strike: CALLED OFF", "wish 1 10; callOff; strike 0 ! state; strike 1 ! index; strike -1 ! index");
  }

  private static void apart() {
    edge("apart: APART", "apart 0; apart 0 ! state; apart 3 ! index; apart -1 ! index");
    edge("apart: CALLED OFF",
        "apart 0; callOff; apart 0 ! state; apart 1 ! state; apart 3 ! index; apart lowest ! index",
        "apart highest ! index");
  }

  private static void join() {
    edge("join: JOINED", "join 0 ! state; join 2 ! state; join 3 ! index; join -1 ! index");
    edge("join: CALLED OFF",
        "apart 0; callOff; join 0 ! state; join 1 ! state; join 3 ! index; join lowest ! index",
        "join highest ! index");
  }

  private static void hold() {
    edge("hold: no such TILL, GUEST, or WISH before minutes",
        "wish 1 1; guest 1; hold 3 0 0 0 ! index; hold 0 1 0 0 ! index; hold 0 0 1 61 ! index",
        "hold 0 0 0 0 ! argument; hold -1 -1 -1 -1 ! index");
    edge("hold: minutes before nothing is LEFT",
        "wish 1 1; guest 1; buy 0 0 0; hold 0 0 0 0 ! argument; hold 0 0 0 61 ! argument",
        "hold 0 0 0 1 ! state; hold 3 0 0 1 ! index");
    edge("hold: minutes before it is SHARED or STRUCK",
        "wish 1 1; shared 1; guest 1; strike 0; hold 0 0 0 61 ! argument; hold 0 0 1 0 ! argument",
        "hold 0 0 0 60 ! state; hold 0 0 1 1 ! state");
    edge("hold: minutes before there were 20",
        "wish 5 1; guest 1;" + "hold 0 0 0 1; pass 1;".repeat(20),
        "hold 0 0 0 0 ! argument; hold 0 0 0 61 ! argument; hold 0 0 0 1 ! state; hold 0 1 0 1 ! index");
    edge("hold: CALLED OFF",
        "wish 5 1; guest 1; callOff; hold 0 0 0 0 ! argument; hold 0 0 0 1 ! state; hold 0 0 0 60 ! state",
        "hold 0 1 0 61 ! index; hold 0 0 1 1 ! index; hold 3 0 0 1 ! index");
  }

  private static void buy() {
    edge("buy: each reason by itself",
        "wish 1 10; shared 10; wish 1 10; wish 1 11; guest 10; guest 20; strike 2; buy 0 0 1 ! state",
        "buy 0 0 2 ! state; buy 0 0 3 ! state; buy 0 1 0 = 0; buy 0 0 0 ! state; buy 0 1 3 ! state");
    edge("buy: no such TILL, GUEST, or WISH before all",
        "wish 1 10; guest 10; buy 0 0 0; buy 3 0 0 ! index; buy 0 1 0 ! index; buy 0 0 1 ! index",
        "buy 0 0 0 ! state; callOff; buy 3 0 0 ! index; buy 0 1 0 ! index; buy 0 0 1 ! index",
        "buy 0 0 0 ! state");
    edge("buy: a HOLD is not used by a call that is refused for the PURSE",
        "wish 1 10; guest 9; hold 0 0 0 60; buy 0 0 0 ! state; shop 10 = 1; price 0 9; buy 0 0 0 = 0",
        "shop 10 = 0");
    edge("buy: a HOLD is not used by a call that is refused as it is CALLED OFF",
        "wish 1 10; guest 99; hold 0 0 0 60; callOff; buy 0 0 0 ! state; shop 10 = 1");
    edge("buy: a HOLD is not used by a call that is refused for 40 GIFTS",
        "wish 5 1; guest 99;" + "buy 0 0 0; giveBack 0 0;".repeat(40),
        "hold 0 0 0 60; buy 0 0 0 ! state; shop 10 = 1; ofGuest 0 0 = 99");
  }

  private static void giveBack() {
    edge("giveBack: no such GUEST, or WISH before all",
        "wish 1 10; guest 10; giveBack 0 0 ! state; giveBack 1 0 ! index; giveBack 0 1 ! index",
        "giveBack -1 -1 ! index; callOff; giveBack 0 0 ! state; giveBack 1 0 ! index; giveBack 0 1 ! index");
    edge("giveBack: CALLED OFF",
        "wish 1 10; guest 10; buy 0 0 0; callOff; giveBack 0 0 ! state; ofGuest 0 0 = 10; shop 8 = 10");
  }

  private static void pledge() {
    edge("pledge: no such GUEST, or WISH before pence",
        "shared 10; guest 10; pledge 1 0 0 ! index; pledge 0 1 10000 ! index; pledge -1 0 0 ! index",
        "pledge 0 -1 0 ! index; pledge 0 0 0 ! argument; pledge 0 0 10000 ! argument");
    edge("pledge: pence before it is STRUCK",
        "shared 10; guest 10; strike 0; pledge 0 0 0 ! argument; pledge 0 0 10000 ! argument",
        "pledge 0 0 1 ! state; pledge 1 0 1 ! index");
    edge("pledge: pence before it is ORDERED",
        "shared 10; guest 20; pledge 0 0 10; pledge 0 0 0 ! argument; pledge 0 0 10000 ! argument",
        "pledge 0 0 1 ! state; pledge 0 1 1 ! index");
    edge("pledge: pence before it is not SHARED",
        "wish 1 10; guest 20; pledge 0 0 0 ! argument; pledge 0 0 10000 ! argument; pledge 0 0 10 ! state",
        "pledge 0 1 1 ! index");
    edge("pledge: pence before the PURSE",
        "shared 9999; guest 9998; pledge 0 0 10000 ! argument; pledge 0 0 9999 ! state",
        "pledge 0 0 9998 = 9998; pledge 0 0 0 ! argument; pledge 0 0 1 ! state");
    edge("pledge: CALLED OFF",
        "shared 10; guest 10; callOff; pledge 0 0 0 ! argument; pledge 0 0 10000 ! argument",
        "pledge 0 0 1 ! state; pledge 0 1 0 ! index; pledge 1 0 1 ! index");
  }

  private static void pass() {
    edge("pass: minutes before MINUTE would be above 9999",
        "19 * pass 500; pass 499; pass 0 ! argument; pass 501 ! argument; pass -1 ! argument; pass 1 ! state",
        "pass 500 ! state; pass highest ! argument");
    edge("pass: CALLED OFF is no reason",
        "callOff; pass 0 ! argument; pass 500 = 0; pass 501 ! argument; shop 0 = 500");
  }

  private static void callOff() {
    edge("callOff: if it is",
        "wish 1 10; guest 10; buy 0 0 0; callOff = 10; callOff ! state; shop 8 = 10; callOff ! state",
        "shop 6 = 1");
  }

  private static void whatIsAsked() {
    String list = "wish 1 10; guest 10; buy 0 0 0;";
    edge("ofWish: what is 0 to 8",
        list,
        "ofWish 0 -1 ! argument; ofWish 0 0 = 1; ofWish 0 7 = 0; ofWish 0 8 = 0; ofWish 0 9 ! argument",
        "ofWish 0 lowest ! argument; ofWish 0 highest ! argument");
    edge("ofWish: no such WISH before what",
        list,
        "ofWish -1 0 ! index; ofWish 1 0 ! index; ofWish 1 9 ! index; ofWish -1 -1 ! index",
        "ofWish lowest 0 ! index; ofWish highest 0 ! index");
    edge("ofGuest: what is 0 to 5",
        list,
        "ofGuest 0 -1 ! argument; ofGuest 0 0 = 0; ofGuest 0 4 = 0; ofGuest 0 5 = 0; ofGuest 0 6 ! argument",
        "ofGuest 0 lowest ! argument; ofGuest 0 highest ! argument");
    edge("ofGuest: no such GUEST before what",
        list,
        "ofGuest -1 0 ! index; ofGuest 1 0 ! index; ofGuest 1 6 ! index; ofGuest -1 -1 ! index",
        "ofGuest lowest 0 ! index; ofGuest highest 0 ! index");
    edge("ofTill: what is 0 to 5",
        list,
        "ofTill 0 -1 ! argument; ofTill 0 0 = 1; ofTill 0 4 = 0; ofTill 0 5 = 0; ofTill 0 6 ! argument",
        "ofTill 0 lowest ! argument; ofTill 0 highest ! argument");
    edge("ofTill: no such TILL before what",
        list,
        "ofTill -1 0 ! index; ofTill 3 0 ! index; ofTill 3 6 ! index; ofTill -1 -1 ! index",
        "ofTill lowest 0 ! index; ofTill highest 0 ! index");
    edge("ofGift: what is 0 to 5",
        list,
        "ofGift 0 -1 ! argument; ofGift 0 0 = 0; ofGift 0 4 = 10; ofGift 0 5 = 0; ofGift 0 6 ! argument",
        "ofGift 0 lowest ! argument; ofGift 0 highest ! argument");
    edge("shop: what is 0 to 11",
        list,
        "shop -1 ! argument; shop 0 = 0; shop 10 = 0; shop 11 = 0; shop 12 ! argument",
        "shop lowest ! argument; shop highest ! argument");
  }

  private static void numbersOfGifts() {
    edge("ofGift: no such GIFT before what",
        "wish 1 10; guest 10; ofGift 0 0 ! index; buy 0 0 0; ofGift -1 0 ! index; ofGift 1 0 ! index",
        "ofGift 1 6 ! index; ofGift -1 -1 ! index; ofGift lowest 0 ! index; ofGift highest 0 ! index");
    edge("ofGift: one that was GIVEN BACK can be asked",
        "wish 1 10; guest 10; buy 0 0 0; giveBack 0 0; ofGift 0 5 = 2; ofGift 0 0 = 0; ofGift 1 0 ! index");
    edge("hint: no such GUEST, or TILL",
        "wish 1 10; guest 10; hint 1 0 ! index; hint -1 0 ! index; hint 0 3 ! index; hint 0 -1 ! index",
        "hint 1 3 ! index; hint 0 lowest ! index; hint 0 highest ! index");
    edge("wouldTake: no such TILL",
        "wouldTake 3 ! index; wouldTake -1 ! index; wouldTake lowest ! index; wouldTake highest ! index");
  }
}
