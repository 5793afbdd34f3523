/** The document's part 5: FILL, HINT, cards, and what is CALLED OFF, sentence by sentence. */
public final class HintEdgesTest {
  private static final Checks checks = new Checks();

  private static void edge(String sentence, String... calls) {
    Run.check(checks, sentence, calls);
  }

  public static void main(String[] args) {
    fillOfNothing();
    fillWithinPurses();
    fillIsTheMost();
    fillByWhom();
    hintOfNothing();
    hintCheapest();
    hintDearest();
    hintWithout();
    cards();
    calledOff();
    notAsked();
    checks.end();
  }

  private static void fillOfNothing() {
    edge("FILL without GUESTS", "wish 5 1; ofTill 0 4 = 0; ofTill 0 5 = 5");
    edge("FILL without WISHES", "guest 99; ofTill 0 4 = 0");
    edge("FILL of nothing LEFT", "wish 1 1; guest 99; guest 99; buy 0 0 0; ofTill 0 4 = 0; ofTill 1 4 = 0");
    edge("FILL of SHARED ones", "shared 1; guest 99; ofTill 0 4 = 0");
    edge("FILL of STRUCK ones", "wish 5 1; guest 99; ofTill 0 4 = 1; strike 0; ofTill 0 4 = 0");
    edge("FILL of what is held",
        "wish 2 1; guest 99; guest 99; ofTill 0 4 = 2; hold 0 0 0 5; ofTill 0 4 = 1; hold 0 0 0 5",
        "ofTill 0 4 = 0; pass 5; ofTill 0 4 = 2");
    edge("FILL of all that is LEFT there",
        "wish 2 1; guest 99; guest 99; guest 99; apart 2; hold 0 0 0 5; hold 0 0 0 5; ofTill 0 4 = 0",
        "ofTill 1 4 = 0; ofTill 2 4 = 2");
  }

  private static void fillWithinPurses() {
    edge("each within its PURSE: a penny less", "wish 1 10; guest 9; ofTill 0 4 = 0");
    edge("each within its PURSE: just PRICE", "wish 1 10; guest 10; ofTill 0 4 = 1");
    edge("each within its PURSE: a penny more", "wish 1 10; guest 11; ofTill 0 4 = 1");
    edge("each within its PURSE: an empty one", "wish 5 1; guest 0; guest 1; ofTill 0 4 = 1");
    edge("each within its PURSE: as PRICES are now",
        "wish 2 10; guest 10; guest 20; ofTill 0 4 = 2; price 0 11; ofTill 0 4 = 1; price 0 20",
        "ofTill 0 4 = 1; price 0 21; ofTill 0 4 = 0");
    edge("one by each GUEST", "wish 5 1; guest 99; ofTill 0 4 = 1; guest 99; ofTill 0 4 = 2");
    edge("piece by piece: as many as pieces",
        "wish 1 1; wish 1 1; guest 99; guest 99; ofTill 0 4 = 2; guest 99; ofTill 0 4 = 2; wish 1 1",
        "ofTill 0 4 = 3");
    edge("a full list: FILL is 6", "8 * wish 5 1; 6 * guest 1; ofTill 0 5 = 40; ofTill 0 4 = 6");
  }

  private static void fillIsTheMost() {
    edge("the most pieces: the rich one leaves the cheap piece",
        "wish 1 10; wish 1 20; guest 20; guest 10; ofTill 0 4 = 2");
    edge("the most pieces: in another order", "wish 1 20; wish 1 10; guest 10; guest 20; ofTill 0 4 = 2");
    edge("the most pieces: too dear ones serve nobody",
        "wish 1 10; wish 5 30; guest 20; guest 29; guest 10; ofTill 0 4 = 1");
    edge("the most pieces: three of each",
        "wish 1 30; wish 1 10; wish 1 20; guest 30; guest 10; guest 20; ofTill 0 4 = 3; price 1 11",
        "ofTill 0 4 = 2; price 0 31; ofTill 0 4 = 2; price 2 21; ofTill 0 4 = 2; price 1 21; ofTill 0 4 = 1");
    edge("the most pieces: poor ones share what is cheap",
        "wish 2 5; wish 1 50; guest 5; guest 6; guest 49; guest 50; ofTill 0 4 = 3; price 1 49",
        "ofTill 0 4 = 3; wish 1 6; ofTill 0 4 = 4");
  }

  private static void fillByWhom() {
    edge("who has no GIFT that is KEPT",
        "wish 5 1; guest 99; guest 99; buy 0 0 0; ofTill 0 4 = 1; giveBack 0 0; ofTill 0 4 = 2");
    edge("who has no GIFT that is KEPT, TAKEN BACK is not KEPT",
        "wish 1 1; wish 5 1; guest 99; guest 99; apart 2; buy 0 0 0; buy 2 1 0; ofTill 0 4 = 0; join 2 = 1",
        "ofTill 0 4 = 1");
    edge("who has no GIFT, wherever",
        "wish 5 1; guest 99; guest 99; apart 2; buy 2 0 0; ofTill 0 3 = 0; ofTill 0 4 = 1; ofTill 2 4 = 1");
    edge("who has no GIFT of any WISH, STRUCK ones too",
        "wish 5 1; wish 5 1; guest 99; guest 99; buy 0 0 0; strike 0; ofTill 0 4 = 1");
    edge("and no PLEDGE: a penny",
        "wish 5 1; shared 9; guest 99; guest 99; pledge 0 1 1; ofTill 0 4 = 1; pledge 1 1 8; ofTill 0 4 = 0");
    edge("and no PLEDGE, of any WISH",
        "wish 5 1; shared 9; shared 9; shared 9; 3 * guest 99; pledge 0 1 1; pledge 1 3 1; ofTill 0 4 = 1");
    edge("A HOLD is no GIFT", "wish 5 1; guest 99; hold 0 0 0 60; ofTill 0 4 = 1");
  }

  private static void hintOfNothing() {
    edge("HINT: none without WISHES", "guest 99; hint 0 0 = -1; hint 0 2 = -1");
    edge("HINT: none with nothing LEFT there",
        "wish 1 1; guest 99; apart 2; buy 0 0 0; hint 0 0 = -1; hint 0 1 = -1; hint 0 2 = 0");
    edge("HINT: none of SHARED and STRUCK ones", "shared 1; wish 5 1; guest 99; strike 1; hint 0 0 = -1");
    edge("HINT of a PRICE within its PURSE: a penny less", "wish 1 10; guest 9; hint 0 0 = -1");
    edge("HINT of a PRICE within its PURSE: just so many", "wish 1 10; guest 10; hint 0 0 = 0");
    edge("HINT of a PRICE within its PURSE: a penny more", "wish 1 10; guest 11; hint 0 0 = 0");
    edge("HINT for an empty PURSE", "wish 5 1; guest 0; hint 0 0 = -1");
    edge("No such GUEST to hint to",
        "wish 1 1; guest 9; hint -1 0 ! index; hint 1 0 ! index; hint lowest 0 ! index",
        "hint highest 0 ! index; hint 0 0 = 0");
  }

  private static void hintCheapest() {
    edge("the cheapest one",
        "wish 1 30; wish 1 10; wish 1 20; guest 99; hint 0 0 = 1; price 1 21; hint 0 0 = 2; price 2 31",
        "hint 0 0 = 1; price 1 32; hint 0 0 = 0");
    edge("of several the smallest number",
        "wish 1 20; wish 1 10; wish 1 10; guest 99; hint 0 0 = 1; price 2 9; hint 0 0 = 2; price 0 9",
        "hint 0 0 = 0");
    edge("by which FILL is as great: the cheapest one is another's only one",
        "wish 1 10; wish 1 20; guest 99; guest 10; hint 0 0 = 1; hint 1 0 = 0");
    edge("by which FILL is as great: there are two of that",
        "wish 2 10; wish 1 20; guest 99; guest 10; hint 0 0 = 0");
    edge("by which FILL is as great: the other one could have another",
        "wish 1 10; wish 1 20; guest 99; guest 20; hint 0 0 = 0; hint 1 0 = 0");
    edge("by which FILL is as great: the other one buys nothing anyway",
        "wish 1 10; wish 1 20; guest 99; guest 9; hint 0 0 = 0");
    edge("by which FILL is as great: of several the smallest number that spares all",
        "wish 1 10; wish 1 20; wish 1 20; guest 99; guest 10; hint 0 0 = 1; price 2 19; hint 0 0 = 2");
    edge("by which FILL is as great: more GUESTS than pieces",
        "wish 1 10; wish 1 20; wish 1 30; guest 99; 2 * guest 10; guest 30; hint 0 0 = 1; guest 30",
        "hint 0 0 = 2");
    edge("HINT asks what is LEFT there",
        "wish 1 10; wish 1 20; guest 99; guest 99; apart 2; buy 0 1 0; hint 0 0 = 1; hint 0 1 = 1",
        "hint 0 2 = 0");
  }

  private static void hintDearest() {
    edge("if there is none by which it is, the dearest one",
        "wish 1 10; wish 1 20; guest 99; 2 * guest 20; hint 0 0 = 1; price 0 21; price 1 19; hint 0 0 = 0");
    edge("the dearest one, though its PRICE is a penny", "wish 1 1; guest 5; guest 5; hint 0 0 = 0");
    edge("the dearest one: of several the smallest number",
        "wish 1 10; wish 1 20; wish 1 20; guest 99; 3 * guest 20; hint 0 0 = 1; price 2 21; hint 0 0 = 2");
    edge("the dearest one of these, within its PURSE",
        "wish 1 10; wish 1 20; wish 1 30; guest 20; 3 * guest 99; hint 0 0 = 1; price 2 20; hint 0 0 = 1",
        "price 1 30; hint 0 0 = 2");
    edge("the dearest one of these, with something LEFT",
        "wish 1 10; wish 1 20; wish 1 30; guest 99; guest 99; guest 99; guest 99; guest 99; hold 0 0 2 5",
        "hint 0 0 = 1; pass 5; hint 0 0 = 2");
  }

  private static void hintWithout() {
    edge("without this GUEST: it is not counted itself",
        "wish 1 10; guest 10; hint 0 0 = 0; wish 1 5; hint 0 0 = 1");
    edge("without this GUEST: who has a GIFT is hinted to, too",
        "wish 2 10; wish 1 20; guest 99; guest 10; buy 0 0 0; hint 0 0 = 1");
    edge("without this GUEST: who has a PLEDGE is hinted to, too",
        "wish 1 10; wish 1 20; shared 50; guest 99; guest 10; pledge 0 2 5; hint 0 0 = 1");
    edge("Others that have a GIFT or a PLEDGE need none",
        "wish 2 10; wish 1 20; shared 50; guest 99; guest 20; guest 10; hint 0 0 = 0; hold 0 0 0 60",
        "hint 0 0 = 1; buy 0 1 1; price 0 5; hint 0 0 = 0; pledge 2 2 5; hint 0 0 = 0");
    edge("that piece: one of three",
        "wish 3 10; wish 1 20; guest 99; guest 10; guest 10; hint 0 0 = 0; guest 10; hint 0 0 = 1");
  }

  private static void cards() {
    edge("card: none without both", "wish 1 1; shared 1; card 0 = none; card 1 = none");
    edge("card: the GUESTS of its KEPT GIFTS as they were bought, a digit for each GIFT",
        "wish 5 1; 6 * guest 9; buy 0 5 0; buy 2 0 0; buy 1 5 0; card 0 = 505; buy 0 3 0; card 0 = 5053");
    edge("card: as they were bought, not by MINUTE or TILL of those that are SEEN",
        "wish 5 1; 3 * guest 9; apart 2; buy 2 2 0; pass 1; buy 0 1 0; buy 2 0 0; card 0 = 210");
    edge("card: more than COUNT, as TILLS are APART",
        "wish 5 1; 3 * guest 9; apart 1; apart 2; 5 * buy 2 2 0; 5 * buy 1 1 0; 5 * buy 0 0 0",
        "card 0 = 222221111100000; join 1 = 5; card 0 = 2222200000");
    edge("card: those that were TAKEN BACK or GIVEN BACK are not on it",
        "wish 1 1; 3 * guest 9; apart 2; buy 0 1 0; buy 2 2 0; join 2; card 0 = 1; giveBack 1 0",
        "card 0 = none");
    edge("card: those who have PLEDGES, by rising numbers, each once",
        "shared 99; 6 * guest 9; pledge 5 0 1; pledge 2 0 1; pledge 5 0 1; pledge 0 0 1; card 0 = +025");
    edge("card: of that WISH",
        "shared 99; shared 99; wish 1 1; guest 9; guest 9; pledge 0 0 1; pledge 1 1 1; buy 0 1 2",
        "card 0 = +0; card 1 = +1; card 2 = 1");
    edge("card of no WISH",
        "wish 1 1; card -1 ! index; card 1 ! index; card lowest ! index; card highest ! index");
  }

  private static void calledOff() {
    String list = "wish 5 10; shared 90; guest 99; guest 99; buy 0 0 0; pledge 1 1 20; apart 2; buy 2 1 0;"
        + "hold 0 1 0 60;";
    edge("all KEPT GIFTS are GIVEN BACK, and all PLEDGES go back",
        list,
        "callOff = 40; shop 4 = 0; shop 6 = 2; shop 8 = 40; shop 7 = 40; ofGuest 0 0 = 99; ofGuest 1 0 = 99",
        "ofWish 1 6 = 0; card 0 = none; card 1 = none");
    edge("all KEPT GIFTS are GIVEN BACK, however long ago",
        "wish 5 10; guest 99; buy 0 0 0; pass 101; giveBack 0 0 ! state; callOff = 10; ofGift 0 5 = 2");
    edge("GIFTS that were TAKEN BACK stay so",
        "wish 1 10; guest 99; guest 99; apart 2; buy 0 0 0; buy 2 1 0; join 2; callOff = 10; ofGift 0 5 = 2",
        "ofGift 1 5 = 1; shop 5 = 1");
    edge("behind that nothing is bought",
        list,
        "callOff; buy 0 0 0 ! state; buy 0 1 0 ! state; buy 2 0 0 ! state");
    edge("behind that nothing is held", list, "callOff; hold 0 0 0 5 ! state; hold 2 0 0 5 ! state");
    edge("behind that nothing is pledged", list, "callOff; pledge 0 1 5 ! state");
    edge("behind that nothing is wished", list, "callOff; wish 1 1 ! state; shared 1 ! state; shop 1 = 2");
    edge("behind that nothing is given back",
        list,
        "callOff; giveBack 0 0 ! state; giveBack 1 0 ! state; shop 8 = 40");
    edge("behind that no TILL goes APART", list, "callOff; apart 0 ! state; apart 2 ! state; ofTill 0 0 = 1");
    edge("behind that no TILL is JOINED",
        list,
        "callOff; join 2 ! state; join 0 ! state; ofTill 2 0 = 0; wouldTake 2 = 0");
    edge("behind that no PRICE changes",
        list,
        "callOff; price 0 5 ! state; price 1 5 ! state; ofWish 0 1 = 10");
    edge("behind that nothing is STRUCK",
        list,
        "callOff; strike 0 ! state; strike 1 ! state; ofWish 0 3 = 0");
    edge("It is CALLED OFF once", list, "shop 11 = 0; callOff; shop 11 = 1; callOff ! state; shop 8 = 40");
    edge("behind that GUESTS come and MINUTES go by",
        list,
        "callOff; guest 7 = 2; ofGuest 2 0 = 7; pass 5 = 1; shop 0 = 5; 3 * guest 1; guest 1 ! state");
  }

  private static void notAsked() {
    edge("HOLDS stand on, till they run out",
        "wish 5 10; guest 99; hold 0 0 0 60; callOff = 0; shop 10 = 1; left 0 0 = 4; pass 59 = 1",
        "ofGuest 0 5 = 1; pass 1 = 0; left 0 0 = 5");
    edge("LEFT does not ask whether it is CALLED OFF",
        "wish 5 10; guest 99; buy 0 0 0; left 0 0 = 4; callOff; left 0 0 = 5; ofTill 0 5 = 5");
    edge("FILL does not ask whether it is CALLED OFF",
        "wish 1 10; guest 99; guest 99; buy 0 0 0; ofTill 0 4 = 0; callOff; ofTill 0 4 = 1");
    edge("HINT does not ask whether it is CALLED OFF",
        "wish 1 10; guest 99; buy 0 0 0; hint 0 0 = -1; callOff; hint 0 0 = 0");
    edge("nor how many GIFTS there were",
        "wish 2 10; guest 99; guest 99",
        "buy 0 0 0; giveBack 0 0;".repeat(40),
        "buy 0 0 0 ! state; left 0 0 = 2; ofTill 0 4 = 2; hint 0 0 = 0");
  }
}
