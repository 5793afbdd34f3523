/** The document's part 2: what is SEEN, LEFT, bought, and TAKEN BACK, sentence by sentence. */
public final class TillEdgesTest {
  private static final Checks checks = new Checks();

  private static void edge(String sentence, String... calls) {
    Run.check(checks, sentence, calls);
  }

  public static void main(String[] args) {
    tills();
    book();
    seenGifts();
    seenHolds();
    asThatIsNow();
    left();
    bought();
    boughtByHold();
    servingHold();
    onlyIfFewerAreKept();
    tooMany();
    law();
    lawOfMany();
    backToItsGuest();
    wouldTake();
    checks.end();
  }

  private static void tills() {
    edge("TILLS 0, 1 and 2, JOINED at first", "ofTill 0 0 = 1; ofTill 1 0 = 1; ofTill 2 0 = 1");
    edge("No TILL below 0",
        "wish 1 1; guest 9; apart -1 ! index; join -1 ! index; hold -1 0 0 1 ! index; buy -1 0 0 ! index",
        "left -1 0 ! index; ofTill -1 0 ! index; wouldTake -1 ! index; hint 0 -1 ! index");
    edge("No TILL above 2",
        "wish 1 1; guest 9; apart 3 ! index; join 3 ! index; hold 3 0 0 1 ! index; buy 3 0 0 ! index",
        "left 3 0 ! index; ofTill 3 0 ! index; wouldTake 3 ! index; hint 0 3 ! index");
    edge("No TILL far away",
        "wish 1 1; guest 9; apart lowest ! index; join highest ! index; hold 32 0 0 1 ! index",
        "buy 33 0 0 ! index; left lowest 0 ! index; ofTill highest 0 ! index; wouldTake 64 ! index",
        "hint 0 -32 ! index");
    edge("TILL 2 is one",
        "wish 1 1; guest 9; apart 2 = 2; join 2 = 0; hold 2 0 0 1 = 0; buy 2 0 0 = 0; left 2 0 = 0");
    edge("Each TILL goes APART: how many are JOINED then",
        "apart 0 = 2; ofTill 0 0 = 0; ofTill 1 0 = 1; apart 2 = 1; apart 1 = 0; ofTill 1 0 = 0; join 0 = 0",
        "apart 0 = 0");
    edge("A TILL that is APART goes not APART", "apart 1 = 2; apart 1 ! state; ofTill 1 0 = 0; apart 0 = 1");
    edge("A TILL that is JOINED is not joined",
        "join 0 ! state; apart 0; join 1 ! state; join 0 = 0; join 0 ! state");
  }

  private static void book() {
    String thirtyNine = "buy 0 0 0; giveBack 0 0;".repeat(39);
    edge("GIFTS are at most 40 ever, numbered from 0",
        "wish 5 1; guest 9999; buy 0 0 0 = 0; buy 0 0 0 = 1; giveBack 0 0; buy 0 0 0 = 2; shop 3 = 3");
    edge("GIFTS are at most 40 ever: the last one",
        "wish 5 1; guest 9999",
        thirtyNine,
        "shop 3 = 39; buy 0 0 0 = 39; shop 3 = 40; buy 0 0 0 ! state; shop 3 = 40; left 0 0 = 4");
    edge("GIFTS are at most 40 ever, though none is KEPT",
        "wish 5 1; guest 9999",
        thirtyNine,
        "buy 0 0 0 = 39; giveBack 0 0 = 1; shop 4 = 0; buy 0 0 0 ! state; shop 6 = 40; left 0 0 = 5");
    edge("GIFTS are at most 40 ever, at another TILL and for a HOLD, too",
        "wish 5 1; guest 9999",
        thirtyNine,
        "apart 2; buy 0 0 0 = 39; hold 2 0 0 9 = 0; buy 2 0 0 ! state; shop 10 = 1; buy 1 0 0 ! state");
    edge("GIFTS are numbered as they were bought, wherever",
        "wish 5 1; guest 9; apart 2; buy 2 0 0 = 0; buy 0 0 0 = 1; buy 2 0 0 = 2; join 2; buy 1 0 0 = 3",
        "ofGift 0 2 = 2; ofGift 1 2 = 0; ofGift 2 2 = 2; ofGift 3 2 = 1; ofGift 4 0 ! index",
        "ofGift -1 0 ! index");
    edge("Each GIFT is of a WISH by a GUEST at a TILL in a MINUTE, for a price",
        "wish 1 5; wish 1 7; guest 9; guest 9; pass 4; buy 2 1 1 = 0; price 1 8; pass 3; ofGift 0 0 = 1",
        "ofGift 0 1 = 1; ofGift 0 2 = 2; ofGift 0 3 = 4; ofGift 0 4 = 7; ofGift 0 5 = 0");
    edge("KEPT till it is TAKEN BACK",
        "wish 1 5; guest 9; guest 9; apart 1; buy 0 0 0; buy 1 1 0; ofGift 1 5 = 0; shop 4 = 2; join 1 = 1",
        "ofGift 0 5 = 0; ofGift 1 5 = 1; shop 4 = 1; shop 5 = 1; shop 6 = 0");
    edge("KEPT till it is GIVEN BACK",
        "wish 1 5; guest 9; buy 0 0 0; pass 100; ofGift 0 5 = 0; giveBack 0 0; ofGift 0 5 = 2; shop 4 = 0",
        "shop 5 = 0; shop 6 = 1; ofGift 0 4 = 5");
  }

  private static void seenGifts() {
    edge("What is done at a TILL that is JOINED is SEEN by all that are JOINED then",
        "wish 5 10; guest 99; apart 2; buy 0 0 0; ofTill 0 3 = 1; ofTill 1 3 = 1; ofTill 2 3 = 0",
        "ofTill 0 1 = 1; ofTill 1 1 = 0");
    edge("or later",
        "wish 5 10; guest 99; apart 2; buy 0 0 0; left 2 0 = 5; join 2 = 0; ofTill 2 3 = 1; left 2 0 = 4");
    edge("What is done at one that is APART is SEEN by it alone",
        "wish 5 10; guest 99; apart 1; apart 2; buy 1 0 0; ofTill 0 3 = 0; ofTill 1 3 = 1; ofTill 2 3 = 0");
    edge("as it is JOINED again, by all that are JOINED then",
        "wish 5 10; guest 99; apart 1; buy 1 0 0; left 0 0 = 5; join 1; ofTill 0 3 = 1; ofTill 1 3 = 1",
        "ofTill 2 3 = 1");
    edge("but not by one that is APART then, only as that is JOINED later",
        "wish 5 10; guest 99; apart 1; apart 2; buy 1 0 0; join 1; ofTill 0 3 = 1; ofTill 2 3 = 0; join 2",
        "ofTill 2 3 = 1");
    edge("Another one that is JOINED does not tell what is done at one that is APART",
        "wish 5 10; guest 99; apart 1; apart 2; buy 1 0 0; join 2; ofTill 0 3 = 0; ofTill 2 3 = 0",
        "ofTill 1 3 = 1");
    edge("One that is APART goes on to SEE all that it SAW as it went APART",
        "wish 5 10; guest 99; buy 0 0 0; apart 2; ofTill 2 3 = 1; left 2 0 = 4; buy 0 0 0; ofTill 2 3 = 1",
        "ofTill 0 3 = 2");
    edge("One that went APART and was JOINED goes APART with all that it SAW then",
        "wish 5 10; guest 99; apart 2; buy 0 0 0; buy 2 0 0; join 2; apart 2; ofTill 2 3 = 2; ofTill 0 3 = 2",
        "buy 2 0 0; ofTill 0 3 = 2");
    edge("As none is JOINED, the first that is SEES what was SEEN by the JOINED ones before, and its own",
        "wish 5 10; guest 99; apart 0; buy 1 0 0; apart 1; buy 0 0 0; buy 1 0 0; apart 2; buy 2 0 0",
        "join 0 = 0; ofTill 0 3 = 2; join 2 = 0; ofTill 0 3 = 3; ofTill 2 3 = 3; ofTill 1 3 = 2; join 1 = 0",
        "ofTill 0 3 = 4");
    edge("What was done as the only one that is JOINED is SEEN later by all",
        "wish 5 10; guest 99; apart 0; apart 1; buy 2 0 0; apart 2; join 0; ofTill 0 3 = 1; join 1",
        "ofTill 1 3 = 1");
    edge("No TILL that is JOINED SEES less than another one that is",
        "wish 5 10; guest 99; apart 1; buy 1 0 0; buy 0 0 0; join 1; ofTill 0 3 = 2; ofTill 1 3 = 2",
        "ofTill 2 3 = 2; isSound = true");
  }

  private static void seenHolds() {
    edge("A HOLD at a TILL that is JOINED is SEEN by all that are JOINED then, or later",
        "wish 5 10; guest 99; apart 2; hold 0 0 0 60; ofTill 0 2 = 1; ofTill 1 2 = 1; ofTill 2 2 = 0; join 2",
        "ofTill 2 2 = 1");
    edge("A HOLD at one that is APART is SEEN by it alone, and as it is JOINED by all JOINED ones",
        "wish 5 10; guest 99; apart 1; apart 2; hold 2 0 0 60; ofTill 0 2 = 0; ofTill 1 2 = 0",
        "ofTill 2 2 = 1; left 0 0 = 5; join 2; ofTill 0 2 = 1; ofTill 1 2 = 0; left 0 0 = 4; left 1 0 = 5",
        "join 1; ofTill 1 2 = 1; left 1 0 = 4");
    edge("One that is APART goes on to SEE a HOLD",
        "wish 5 10; guest 99; hold 0 0 0 60; apart 1; ofTill 1 2 = 1; left 1 0 = 4; ofGuest 0 5 = 1",
        "shop 10 = 1");
  }

  private static void asThatIsNow() {
    edge("Whether a GIFT is KEPT is the same at all TILLS that SEE it: GIVEN BACK",
        "wish 5 10; guest 99; buy 0 0 0; apart 2; giveBack 0 0; ofTill 2 3 = 0; left 2 0 = 5; ofTill 0 3 = 0");
    edge("Whether a GIFT is KEPT is the same at all TILLS that SEE it: TAKEN BACK",
        "wish 1 10; guest 99; guest 99; apart 1; buy 1 0 0; pass 1; buy 0 1 0; apart 2; ofTill 2 3 = 1",
        "join 1 = 1; ofGift 1 5 = 1; ofTill 2 3 = 0; left 2 0 = 1; ofTill 0 3 = 1; left 0 0 = 0");
    edge("Whether a HOLD stands is the same at all TILLS that SEE it: used",
        "wish 5 10; guest 99; hold 0 0 0 60; apart 2; left 2 0 = 4; buy 0 0 0; ofTill 2 2 = 0; left 2 0 = 5",
        "left 0 0 = 4");
    edge("Whether a HOLD stands is the same at all TILLS that SEE it: run out",
        "wish 5 10; guest 99; hold 0 0 0 5; apart 2; pass 4; ofTill 2 2 = 1; left 2 0 = 4; pass 1",
        "ofTill 2 2 = 0; left 2 0 = 5");
    edge("Whether a HOLD stands is the same at all TILLS that SEE it: STRUCK",
        "wish 5 10; guest 99; hold 0 0 0 60; apart 2; strike 0; ofTill 2 2 = 0; ofTill 0 2 = 0; left 2 0 = 0");
    edge("A PRICE and a new WISH are the same at a TILL that is APART",
        "wish 1 10; guest 15; apart 2; price 0 16; buy 2 0 0 ! state; wish 1 15; left 2 1 = 1; buy 2 0 1 = 0");
  }

  private static void left() {
    edge("LEFT is COUNT at first",
        "wish 1 10; wish 5 10; left 0 0 = 1; left 1 1 = 5; left 2 1 = 5; ofTill 0 5 = 6");
    edge("LEFT is less the KEPT GIFTS that it SEES",
        "wish 2 10; guest 99; buy 0 0 0; left 0 0 = 1; buy 0 0 0; left 0 0 = 0; giveBack 0 0; left 1 0 = 1",
        "ofTill 0 5 = 1");
    edge("LEFT is less the HOLDS that stand and that it SEES",
        "wish 2 10; guest 99; hold 0 0 0 5; left 0 0 = 1; hold 0 0 0 4; left 2 0 = 0; pass 4; left 0 0 = 1",
        "pass 1; left 0 0 = 2");
    edge("LEFT is 0 at least: as many GIFTS and HOLDS as COUNT, and one more",
        "wish 2 10; guest 99; apart 2; hold 0 0 0 9; buy 0 0 0; left 0 0 = 1; buy 0 0 0; left 0 0 = 0",
        "hold 2 0 0 9; join 2 = 0; left 0 0 = 0; ofTill 0 5 = 0; giveBack 0 0; left 0 0 = 0; giveBack 0 0",
        "left 0 0 = 1");
    edge("LEFT is 0 at least: another WISH has no less by it",
        "wish 1 10; wish 2 10; guest 99; apart 2; hold 0 0 0 9; hold 2 0 0 9; join 2 = 0; left 0 0 = 0",
        "left 0 1 = 2; ofTill 0 5 = 2");
    edge("LEFT is 0 of one that is SHARED", "shared 10; left 0 0 = 0; left 2 0 = 0; ofTill 0 5 = 0");
    edge("LEFT is 0 of one that is STRUCK",
        "wish 5 10; wish 3 10; strike 0; left 0 0 = 0; left 1 0 = 0; ofTill 0 5 = 3");
    edge("LEFT of no WISH",
        "wish 5 10; left 0 -1 ! index; left 0 1 ! index; left 0 lowest ! index; left 0 highest ! index");
  }

  private static void bought() {
    edge("PRICE goes from the PURSE: a penny less than PRICE",
        "wish 5 100; guest 99; buy 0 0 0 ! state; ofGuest 0 0 = 99");
    edge("PRICE goes from the PURSE: just PRICE",
        "wish 5 100; guest 100; buy 0 0 0 = 0; ofGuest 0 0 = 0; shop 7 = 100; buy 0 0 0 ! state");
    edge("PRICE goes from the PURSE: a penny more",
        "wish 5 100; guest 101; buy 0 0 0 = 0; ofGuest 0 0 = 1; ofGuest 0 2 = 100");
    edge("An empty PURSE buys nothing", "wish 5 1; guest 0; buy 0 0 0 ! state; shop 3 = 0; shop 7 = 0");
    edge("It is the PRICE from now on",
        "wish 5 100; guest 250; price 0 251; buy 0 0 0 ! state; price 0 150; buy 0 0 0 = 0",
        "ofGuest 0 0 = 100");
    edge("otherwise one of LEFT: the last one, and none",
        "wish 2 1; guest 9; buy 0 0 0 = 0; buy 1 0 0 = 1; left 2 0 = 0; buy 2 0 0 ! state");
    edge("One of LEFT there, not of LEFT elsewhere",
        "wish 1 1; guest 9; guest 9; apart 2; buy 0 0 0 = 0; buy 0 1 0 ! state; buy 1 1 0 ! state",
        "buy 2 1 0 = 1; buy 2 1 0 ! state");
    edge("It is SHARED: nothing is bought",
        "shared 5; guest 9; buy 0 0 0 ! state; shop 3 = 0; ofGuest 0 0 = 9");
    edge("It is STRUCK: nothing is bought",
        "wish 5 5; guest 9; strike 0; buy 0 0 0 ! state; shop 3 = 0; ofGuest 0 0 = 9");
    edge("No such GUEST or WISH to buy",
        "wish 1 1; guest 9; buy 0 -1 0 ! index; buy 0 1 0 ! index; buy 0 0 -1 ! index; buy 0 0 1 ! index",
        "buy 0 lowest 0 ! index; buy 0 highest 0 ! index; buy 0 0 lowest ! index; buy 0 0 highest ! index");
  }

  private static void boughtByHold() {
    edge("What the GUEST HOLDS there: a HOLD of its own",
        "wish 1 10; guest 99; guest 99; hold 0 0 0 60; left 0 0 = 0; buy 0 1 0 ! state; ofGuest 0 5 = 1",
        "buy 0 0 0 = 0; ofGuest 0 5 = 0");
    edge("One of LEFT is bought by who has no HOLD of its own, and the other's HOLD stands on",
        "wish 2 10; guest 99; guest 99; hold 0 0 0 60; buy 0 1 0 = 0; ofGuest 0 5 = 1; left 0 0 = 0",
        "buy 0 0 0 = 1");
    edge("A HOLD of that WISH",
        "wish 1 10; wish 2 10; guest 99; guest 99; hold 0 0 0 60; hold 0 1 1 60; buy 0 1 0 ! state",
        "buy 0 0 1 = 0; shop 10 = 2");
    edge("A HOLD that the TILL SEES, there it is used",
        "wish 1 10; guest 99; apart 2; hold 2 0 0 60; buy 2 0 0 = 0; shop 10 = 0; left 2 0 = 0; left 0 0 = 1");
    edge("A HOLD that the TILL does not SEE does not serve there",
        "wish 1 10; guest 99; guest 99; apart 2; hold 2 0 0 60; hold 0 1 0 60; buy 0 0 0 ! state",
        "buy 1 0 0 ! state; shop 10 = 2");
    edge("A HOLD that the TILL does not SEE is not used, as one of LEFT is bought there",
        "wish 1 10; guest 99; apart 2; hold 2 0 0 60; buy 0 0 0 = 0; shop 10 = 1; ofTill 2 2 = 1");
    edge("A HOLD of another TILL that this one SEES serves",
        "wish 1 10; guest 99; hold 0 0 0 60; apart 2; buy 2 0 0 = 0; shop 10 = 0; left 0 0 = 1; left 2 0 = 0");
    edge("A HOLD that stands: its last MINUTE",
        "wish 1 10; guest 99; guest 99; hold 0 0 0 7; pass 6 = 1; buy 0 1 0 ! state; buy 0 0 0 = 0");
    edge("A HOLD that stands no more does not serve",
        "wish 1 10; guest 99; guest 99; hold 0 0 0 7; pass 7 = 0; hold 0 1 0 7 = 1; buy 0 0 0 ! state",
        "buy 0 1 0 = 0");
    edge("It ends by that",
        "wish 2 10; guest 99; hold 0 0 0 60; left 0 0 = 1; buy 0 0 0; left 0 0 = 1; shop 10 = 0",
        "buy 0 0 0 = 1; buy 0 0 0 ! state");
    edge("It ends for good, though the GIFT is GIVEN BACK",
        "wish 2 10; guest 99; hold 0 0 0 60; buy 0 0 0; giveBack 0 0; shop 10 = 0; left 0 0 = 2");
    edge("A HOLD is at no price: PRICE goes as it is now",
        "wish 1 10; guest 19; hold 0 0 0 60; price 0 20; buy 0 0 0 ! state; ofGuest 0 5 = 1; price 0 19",
        "buy 0 0 0 = 0; ofGift 0 4 = 19");
  }

  private static void servingHold() {
    edge("The oldest one, though it stands longest",
        "wish 5 10; guest 99; hold 0 0 0 60; hold 0 0 0 10; buy 0 0 0; pass 9 = 1; pass 1 = 0");
    edge("The oldest one, though it runs out first",
        "wish 5 10; guest 99; hold 0 0 0 10; hold 0 0 0 60; buy 0 0 0; pass 10 = 1; pass 49 = 1; pass 1 = 0");
    edge("The oldest one of three, then the next",
        "wish 5 10; guest 99; hold 0 0 0 5; hold 0 0 0 20; hold 0 0 0 10; buy 0 0 0; buy 0 0 0; pass 9 = 1",
        "pass 1 = 0");
    edge("The oldest one of those that the TILL SEES",
        "wish 5 10; guest 99; apart 2; hold 0 0 0 10; hold 2 0 0 60; buy 2 0 0; ofTill 2 2 = 0",
        "ofTill 0 2 = 1; pass 9 = 1; pass 1 = 0");
    edge("The oldest one of those that stand",
        "wish 5 10; guest 99; hold 0 0 0 5; pass 5; hold 0 0 0 60; hold 0 0 0 5; buy 0 0 0; pass 4 = 1",
        "pass 1 = 0");
    edge("The oldest one of its own",
        "wish 5 10; guest 99; guest 99; hold 0 1 0 60; hold 0 0 0 60; buy 0 0 0; ofGuest 0 5 = 0",
        "ofGuest 1 5 = 1");
  }

  private static void onlyIfFewerAreKept() {
    edge("Only if fewer GIFTS that it SEES are KEPT than COUNT: as many",
        "wish 1 10; guest 99; guest 99; apart 2; hold 0 0 0 60; buy 2 1 0 = 0; join 2 = 0; left 0 0 = 0",
        "buy 0 0 0 ! state; shop 10 = 1; giveBack 1 0; left 0 0 = 0; buy 0 0 0 = 1; shop 10 = 0");
    edge("Only if fewer GIFTS that it SEES are KEPT than COUNT: one fewer",
        "wish 2 10; 3 * guest 99; apart 2; hold 0 0 0 60; hold 0 1 0 60; buy 2 2 0; join 2 = 0; left 0 0 = 0",
        "buy 0 1 0 = 1; ofGuest 1 5 = 0; buy 0 0 0 ! state; ofGuest 0 5 = 1");
    edge("GIFTS that it does not SEE are not asked",
        "wish 1 10; guest 99; guest 99; apart 2; hold 0 0 0 60; buy 2 1 0 = 0; buy 0 0 0 = 1; join 2 = 1",
        "ofGift 1 5 = 0");
    edge("GIFTS that are not KEPT are not asked",
        "wish 1 10; guest 99; buy 0 0 0; giveBack 0 0; hold 0 0 0 60; left 0 0 = 0; buy 0 0 0 = 1");
    edge("GIFTS of another WISH are not asked",
        "wish 1 10; wish 1 10; guest 99; buy 0 0 1; hold 0 0 0 60; buy 0 0 0 = 1; shop 10 = 0");
  }

  private static void tooMany() {
    edge("If more GIFTS are KEPT than COUNT: as many",
        "wish 2 10; guest 99; apart 1; buy 0 0 0; buy 1 0 0; wouldTake 1 = 0; join 1 = 0; ofWish 0 4 = 2");
    edge("If more GIFTS are KEPT than COUNT: one more",
        "wish 2 10; guest 99; apart 1; 2 * buy 0 0 0; buy 1 0 0; wouldTake 1 = 1; join 1 = 1; ofWish 0 4 = 2",
        "ofWish 0 5 = 1");
    edge("If more GIFTS are KEPT than COUNT: twice as many",
        "wish 5 10; guest 99; guest 99; apart 1; 5 * buy 0 0 0; 5 * buy 1 1 0; join 1 = 5; ofWish 0 4 = 5",
        "shop 5 = 5; card 0 = 00000");
    edge("If more GIFTS are KEPT than COUNT: three TILLS",
        "wish 1 10; 3 * guest 99; apart 1; apart 2; buy 2 2 0; buy 1 1 0; buy 0 0 0; shop 4 = 3; join 1 = 1",
        "join 2 = 1; card 0 = 0; shop 5 = 2");
    edge("Nothing was done: nothing is TAKEN BACK",
        "wish 1 10; guest 99; buy 0 0 0; apart 0; join 0 = 0; shop 4 = 1");
    edge("GIFTS that were GIVEN BACK are none",
        "wish 1 10; guest 99; guest 99; apart 1; buy 0 0 0; buy 1 1 0; giveBack 1 0; join 1 = 0",
        "ofGift 0 5 = 0; ofGift 1 5 = 2");
    edge("Of those that these SEE: GIFTS of one that stays APART are not counted",
        "wish 1 10; 3 * guest 99; apart 1; apart 2; buy 1 1 0; buy 2 2 0; wouldTake 1 = 0; join 1 = 0",
        "shop 4 = 2; wouldTake 2 = 1; join 2 = 1");
    edge("Of those that these SEE: GIFTS of one that stays APART are not TAKEN BACK, though the last",
        "wish 1 10; 3 * guest 99; apart 1; apart 2; buy 0 0 0; buy 1 1 0; pass 1; buy 2 2 0; join 1 = 1",
        "ofGift 1 5 = 1; ofGift 2 5 = 0");
    edge("WISH by WISH",
        "wish 1 10; wish 2 7; wish 1 3; guest 99; guest 99; apart 2; buy 0 0 0; 2 * buy 0 0 1; buy 0 0 2",
        "buy 2 1 0; 2 * buy 2 1 1; wouldTake 2 = 3; join 2 = 3; ofWish 0 5 = 1; ofWish 1 5 = 2",
        "ofWish 2 5 = 0; ofGuest 1 4 = 3");
    edge("One WISH's room is not another's",
        "wish 5 10; wish 1 10; guest 99; guest 99; apart 2; buy 0 0 1; buy 2 1 1; join 2 = 1; left 0 0 = 5");
    edge("A STRUCK WISH, too",
        "wish 1 10; guest 99; guest 99; apart 2; buy 0 0 0; buy 2 1 0; strike 0 = 0; wouldTake 2 = 1",
        "join 2 = 1; ofWish 0 4 = 1; ofWish 0 5 = 1");
    edge("HOLDS are not TAKEN BACK",
        "wish 1 10; guest 99; guest 99; apart 2; hold 0 0 0 60; hold 2 1 0 60; wouldTake 2 = 0; join 2 = 0",
        "shop 10 = 2; left 0 0 = 0");
    edge("Once TAKEN BACK it is not TAKEN BACK again",
        "wish 1 10; guest 99; guest 99; apart 2; buy 0 0 0; buy 2 1 0; join 2 = 1; apart 2; wouldTake 2 = 0",
        "join 2 = 0; shop 5 = 1");
  }

  private static void law() {
    edge("The last ones by MINUTE, though it is the lesser TILL's",
        "wish 1 10; guest 99; guest 99; apart 2; buy 2 1 0; pass 1; buy 0 0 0; join 2 = 1; ofGift 0 5 = 0",
        "ofGift 1 5 = 1");
    edge("The last ones by MINUTE, of the TILL that is joined",
        "wish 1 10; guest 99; guest 99; apart 0; buy 1 1 0; pass 1; buy 0 0 0; join 0 = 1; ofGift 0 5 = 0",
        "ofGift 1 5 = 1");
    edge("then by TILL, though it was bought first",
        "wish 1 10; guest 99; guest 99; apart 2; buy 2 1 0; buy 1 0 0; join 2 = 1; ofGift 0 5 = 1",
        "ofGift 1 5 = 0");
    edge("then by TILL, 0 before 1",
        "wish 1 10; guest 99; guest 99; apart 0; buy 1 1 0; buy 0 0 0; join 0 = 1; ofGift 0 5 = 1",
        "ofGift 1 5 = 0");
    edge("then as they were bought",
        "wish 2 10; 3 * guest 99; apart 2; buy 2 1 0; buy 2 2 0; buy 0 0 0; join 2 = 1; ofGift 0 5 = 0",
        "ofGift 1 5 = 1; ofGift 2 5 = 0");
    edge("By MINUTE before the number of the GUEST",
        "wish 1 10; guest 99; guest 99; apart 1; buy 1 1 0; pass 1; buy 0 0 0; join 1; card 0 = 1");
    edge("By MINUTE, not by the price",
        "wish 1 10; guest 99; guest 99; apart 1; buy 1 0 0; pass 1; price 0 5; buy 0 1 0; price 0 20",
        "join 1 = 1; ofGuest 0 0 = 89; ofGuest 1 0 = 99");
    edge("GIFTS that all JOINED ones SAW before are TAKEN BACK, too, if they are the last ones",
        "wish 2 10; 3 * guest 99; apart 2; buy 2 2 0; pass 5; buy 0 0 0; pass 5; buy 1 1 0; join 2 = 1",
        "ofGift 2 5 = 1; ofTill 1 3 = 2");
    edge("GIFTS from before it went APART are among them",
        "wish 2 10; 3 * guest 99; buy 2 0 0; apart 2; buy 2 1 0; pass 1; buy 0 2 0; join 2 = 1",
        "ofGift 0 5 = 0; ofGift 1 5 = 0; ofGift 2 5 = 1");
  }

  private static void lawOfMany() {
    edge("Of several of all three kinds the last ones, two of five",
        "wish 3 10; guest 99; apart 1; apart 2; buy 2 0 0; buy 0 0 0; pass 1; buy 1 0 0; buy 0 0 0",
        "buy 2 0 0; join 1 = 0; join 2 = 2; ofGift 0 5 = 0; ofGift 1 5 = 0; ofGift 2 5 = 1; ofGift 3 5 = 0",
        "ofGift 4 5 = 1");
    edge("The order in which TILLS are joined matters: first 1, then 2",
        "wish 1 10; 3 * guest 99; apart 1; apart 2; buy 2 2 0; pass 1; buy 1 1 0; pass 1; buy 0 0 0",
        "join 1 = 1; card 0 = 21; join 2 = 1; card 0 = 2");
    edge("GIVEN BACK while APART makes room",
        "wish 1 10; 3 * guest 99; apart 1; apart 2; buy 0 0 0; buy 1 1 0; join 1 = 1; giveBack 0 0",
        "buy 2 2 0; join 2 = 0; card 0 = 2");
  }

  private static void backToItsGuest() {
    edge("Each price goes back to its GUEST",
        "wish 1 10; guest 99; guest 50; apart 2; buy 0 0 0; buy 2 1 0; ofGuest 1 0 = 40; join 2",
        "ofGuest 0 0 = 89; ofGuest 1 0 = 50; shop 8 = 10; shop 7 = 20");
    edge("the price that it was bought for",
        "wish 1 10; guest 99; guest 50; apart 2; price 0 30; buy 2 1 0; price 0 10; buy 0 0 0; price 0 999",
        "join 2 = 1; ofGuest 1 0 = 50; ofGuest 0 0 = 89");
    edge("each of several",
        "wish 1 10; 3 * guest 99; apart 2; apart 1; buy 0 0 0; buy 1 1 0; price 0 20; buy 2 2 0; join 1",
        "join 2; ofGuest 1 0 = 99; ofGuest 2 0 = 99; ofGuest 1 4 = 1; ofGuest 2 4 = 1; ofGuest 0 4 = 0");
  }

  private static void wouldTake() {
    edge("wouldTake is 0 of one that is JOINED",
        "wish 1 10; guest 99; guest 99; apart 2; buy 0 0 0; buy 2 1 0; wouldTake 0 = 0; wouldTake 1 = 0",
        "wouldTake 2 = 1");
    edge("wouldTake is 0 of one that did nothing",
        "wish 1 10; guest 99; apart 2; buy 0 0 0; wouldTake 2 = 0");
    edge("wouldTake is of that TILL alone",
        "wish 1 10; 3 * guest 99; apart 1; apart 2; buy 0 0 0; buy 1 1 0; buy 2 2 0; wouldTake 1 = 1",
        "wouldTake 2 = 1; join 1 = 1; wouldTake 2 = 1");
    edge("wouldTake, as none is JOINED",
        "wish 1 10; guest 99; guest 99; buy 0 0 0; giveBack 0 0; apart 0; apart 1; apart 2; buy 0 0 0",
        "buy 1 1 0; wouldTake 0 = 0; wouldTake 1 = 0; join 1 = 0; wouldTake 0 = 1; join 0 = 1");
    edge("wouldTake, as none is JOINED, with what was SEEN before",
        "wish 1 10; guest 99; guest 99; apart 2; buy 0 0 0; apart 0; apart 1; buy 2 1 0; wouldTake 2 = 1",
        "join 2 = 1; ofGift 1 5 = 1; ofTill 2 3 = 1");
  }
}
