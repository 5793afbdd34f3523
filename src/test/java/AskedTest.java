import java.math.BigInteger;

/** Each number that can be asked (promises 15 to 22 and 24): none, some, more, and what takes them away. */
public final class AskedTest {
  private static final Checks checks = new Checks();

  private static void edge(String sentence, String... calls) {
    Run.check(checks, sentence, calls);
  }

  public static void main(String[] args) {
    ofWish();
    ofGuest();
    ofTill();
    ofGift();
    shopCounts();
    shopPence();
    isSound();
    digest();
    checks.end();
  }

  private static void ofWish() {
    edge("ofWish 0: COUNT (1 of a SHARED one)",
        "wish 5 9; shared 8; wish 1 7; ofWish 0 0 = 5; ofWish 1 0 = 1; ofWish 2 0 = 1");
    edge("ofWish 0: COUNT does not go down as it is bought",
        "wish 2 9; guest 99; 2 * buy 0 0 0; ofWish 0 0 = 2; strike 0; ofWish 0 0 = 2");
    edge("ofWish 1: PRICE",
        "wish 5 9; shared 8; ofWish 0 1 = 9; ofWish 1 1 = 8; price 0 7; ofWish 0 1 = 7; ofWish 1 1 = 8",
        "callOff; ofWish 0 1 = 7");
    edge("ofWish 2: 1 if SHARED, otherwise 0",
        "wish 1 9; shared 8; ofWish 0 2 = 0; ofWish 1 2 = 1; strike 1; ofWish 1 2 = 1");
    edge("ofWish 3: 1 if STRUCK, otherwise 0",
        "wish 1 9; shared 8; strike 1; ofWish 0 3 = 0; ofWish 1 3 = 1; callOff; ofWish 0 3 = 0",
        "ofWish 1 3 = 1");
    edge("ofWish 4: KEPT GIFTS, wherever",
        "wish 5 9; wish 5 9; guest 99; apart 2; buy 0 0 0; buy 2 0 0; buy 2 0 1; ofWish 0 4 = 2",
        "ofWish 1 4 = 1; giveBack 0 0; ofWish 0 4 = 1; callOff; ofWish 0 4 = 0");
    edge("ofWish 4: more KEPT GIFTS than COUNT, as TILLS are APART",
        "wish 1 9; guest 99; apart 2; apart 1; buy 0 0 0; buy 1 0 0; buy 2 0 0; ofWish 0 4 = 3; join 1",
        "ofWish 0 4 = 2; join 2; ofWish 0 4 = 1");
    edge("ofWish 5: those that were TAKEN BACK ever",
        "wish 1 9; wish 1 9; guest 99; apart 2; ofWish 0 5 = 0; buy 0 0 0; buy 2 0 0; join 2; ofWish 0 5 = 1",
        "ofWish 1 5 = 0; giveBack 0 0; ofWish 0 5 = 1; callOff; ofWish 0 5 = 1");
    edge("ofWish 5: twice",
        "wish 1 9; guest 99; apart 2; buy 0 0 0; buy 2 0 0; join 2; apart 2; giveBack 0 0; buy 0 0 0",
        "buy 2 0 0; join 2; ofWish 0 5 = 2");
    edge("ofWish 6: PLEDGES together",
        "shared 90; guest 99; guest 99; ofWish 0 6 = 0; pledge 0 0 5; pledge 1 0 6; pledge 0 0 7",
        "ofWish 0 6 = 18; price 0 10; ofWish 0 6 = 10; callOff; ofWish 0 6 = 0");
    edge("ofWish 7: LACKING",
        "shared 90; wish 1 50; guest 99; ofWish 0 7 = 90; ofWish 1 7 = 0; pledge 0 0 89; ofWish 0 7 = 1",
        "price 0 100; ofWish 0 7 = 11; callOff; ofWish 0 7 = 100");
    edge("ofWish 8: 1 if ORDERED, otherwise 0",
        "shared 90; wish 1 50; guest 99; ofWish 0 8 = 0; ofWish 1 8 = 0; pledge 0 0 89; ofWish 0 8 = 0",
        "pledge 0 0 9; ofWish 0 8 = 1; callOff; ofWish 0 8 = 0");
  }

  private static void ofGuest() {
    edge("ofGuest 0: PURSE",
        "wish 5 9; shared 90; guest 99; guest 50; buy 0 0 0; pledge 0 1 20; ofGuest 0 0 = 70",
        "ofGuest 1 0 = 50; giveBack 0 0; ofGuest 0 0 = 79; strike 1; ofGuest 0 0 = 99");
    edge("ofGuest 1: KEPT GIFTS, wherever",
        "wish 5 9; wish 5 9; guest 99; guest 99; apart 2; ofGuest 0 1 = 0; buy 0 0 0; buy 2 0 1; buy 1 1 0",
        "ofGuest 0 1 = 2; ofGuest 1 1 = 1; giveBack 0 0; ofGuest 0 1 = 1; callOff; ofGuest 0 1 = 0",
        "ofGuest 1 1 = 0");
    edge("ofGuest 1: not those that were TAKEN BACK",
        "wish 1 9; guest 99; guest 99; apart 2; buy 0 0 0; buy 2 1 0; ofGuest 1 1 = 1; join 2",
        "ofGuest 1 1 = 0; ofGuest 0 1 = 1");
    edge("ofGuest 2: what was paid for these",
        "wish 5 9; wish 5 7; guest 99; guest 99; ofGuest 0 2 = 0; buy 0 0 0; price 0 8; buy 0 0 0; buy 0 0 1",
        "buy 0 1 1; price 0 1; ofGuest 0 2 = 24; giveBack 0 0; ofGuest 0 2 = 16; ofGuest 1 2 = 7");
    edge("ofGuest 2: no PLEDGES in it",
        "shared 90; guest 99; pledge 0 0 20; ofGuest 0 2 = 0; ofGuest 0 3 = 20");
    edge("ofGuest 3: PLEDGES together",
        "shared 90; shared 80; guest 99; guest 99; ofGuest 0 3 = 0; pledge 0 0 20; pledge 0 1 5",
        "pledge 0 0 1; pledge 1 1 3; ofGuest 0 3 = 26; ofGuest 1 3 = 3; strike 0; ofGuest 0 3 = 5; callOff",
        "ofGuest 0 3 = 0");
    edge("ofGuest 4: GIFTS that were TAKEN BACK from it",
        "wish 1 9; wish 1 9; guest 99; guest 99; apart 2; buy 0 0 0; buy 0 0 1; buy 2 1 0; buy 2 1 1",
        "ofGuest 1 4 = 0; join 2; ofGuest 1 4 = 2; ofGuest 0 4 = 0; giveBack 0 0; ofGuest 0 4 = 0; callOff",
        "ofGuest 1 4 = 2");
    edge("ofGuest 5: HOLDS of it that stand",
        "wish 5 9; wish 5 9; guest 99; guest 99; apart 2; hold 0 0 0 5; hold 2 0 1 6; hold 0 1 0 9",
        "ofGuest 0 5 = 2; ofGuest 1 5 = 1; pass 5; ofGuest 0 5 = 1; buy 2 0 1; ofGuest 0 5 = 0",
        "ofGuest 1 5 = 1; strike 0; ofGuest 1 5 = 0");
  }

  private static void ofTill() {
    edge("ofTill 0: 1 if it is JOINED, otherwise 0",
        "apart 1; ofTill 0 0 = 1; ofTill 1 0 = 0; ofTill 2 0 = 1; join 1; ofTill 1 0 = 1; apart 2; callOff",
        "ofTill 2 0 = 0; ofTill 1 0 = 1");
    edge("ofTill 1: KEPT GIFTS that were bought there",
        "wish 5 9; wish 5 9; guest 99; guest 99; ofTill 2 1 = 0; buy 2 0 0; buy 2 1 1; buy 0 1 0",
        "ofTill 2 1 = 2; ofTill 1 1 = 0; ofTill 0 1 = 1; giveBack 0 0; ofTill 2 1 = 1; callOff",
        "ofTill 2 1 = 0");
    edge("ofTill 1: not those that were TAKEN BACK",
        "wish 1 9; guest 99; apart 2; buy 0 0 0; buy 2 0 0; ofTill 2 1 = 1; join 2; ofTill 2 1 = 0",
        "ofTill 0 1 = 1");
    edge("ofTill 2: HOLDS that stand and that it SEES",
        "wish 5 9; wish 5 9; guest 99; ofTill 0 2 = 0; hold 0 0 0 5; apart 2; hold 2 0 1 6; hold 0 0 1 7",
        "ofTill 0 2 = 2; ofTill 1 2 = 2; ofTill 2 2 = 2; pass 5; ofTill 0 2 = 1; ofTill 2 2 = 1; join 2",
        "ofTill 0 2 = 2");
    edge("ofTill 3: KEPT GIFTS that it SEES",
        "wish 5 9; wish 5 9; guest 99; ofTill 0 3 = 0; buy 0 0 0; apart 2; buy 2 0 1; buy 1 0 1; buy 1 0 0",
        "ofTill 0 3 = 3; ofTill 1 3 = 3; ofTill 2 3 = 2; giveBack 0 0; ofTill 0 3 = 2; ofTill 2 3 = 2");
    edge("ofTill 4: FILL there",
        "wish 1 9; guest 9; apart 2; hold 0 0 0 5; ofTill 0 4 = 0; ofTill 1 4 = 0; ofTill 2 4 = 1");
    edge("ofTill 5: all that is LEFT there, piece by piece",
        "wish 5 9; wish 3 9; shared 9; guest 99; ofTill 0 5 = 8; apart 2; buy 0 0 0; hold 0 0 1 5",
        "ofTill 0 5 = 6; ofTill 1 5 = 6; ofTill 2 5 = 8; strike 0; ofTill 0 5 = 2; ofTill 2 5 = 3");
  }

  private static void ofGift() {
    String two = "wish 5 9; wish 5 7; guest 99; guest 99; pass 3; buy 1 1 0; pass 4; price 1 8; buy 2 0 1;"
        + "price 1 1; pass 1;";
    edge("ofGift 0: its WISH", two, "ofGift 0 0 = 0; ofGift 1 0 = 1");
    edge("ofGift 1: its GUEST", two, "ofGift 0 1 = 1; ofGift 1 1 = 0");
    edge("ofGift 2: its TILL", two, "ofGift 0 2 = 1; ofGift 1 2 = 2; apart 0; ofGift 1 2 = 2");
    edge("ofGift 3: its MINUTE", two, "ofGift 0 3 = 3; ofGift 1 3 = 7");
    edge("ofGift 4: what was paid", two, "ofGift 0 4 = 9; ofGift 1 4 = 8; giveBack 0 1; ofGift 1 4 = 8");
    edge("ofGift 5: 0 if it is KEPT, 2 GIVEN BACK",
        two,
        "ofGift 0 5 = 0; ofGift 1 5 = 0; giveBack 0 1; ofGift 0 5 = 0; ofGift 1 5 = 2");
    edge("ofGift 5: 1 TAKEN BACK",
        "wish 1 9; guest 99; apart 2; buy 2 0 0; buy 0 0 0; join 2; ofGift 0 5 = 1; ofGift 1 5 = 0; callOff",
        "ofGift 0 5 = 1; ofGift 1 5 = 2");
  }

  private static void shopCounts() {
    edge("shop 0: MINUTE", "shop 0 = 0; pass 3; shop 0 = 3; pass 500; shop 0 = 503");
    edge("shop 1: WISHES", "wish 1 1; shared 1; shop 1 = 2; strike 0; shop 1 = 2; callOff; shop 1 = 2");
    edge("shop 2: GUESTS", "guest 1; shop 2 = 1; guest 0; shop 2 = 2");
    edge("shop 3: GIFTS ever",
        "wish 1 9; guest 99; apart 2; buy 0 0 0; buy 2 0 0; shop 3 = 2; join 2; giveBack 0 0; shop 3 = 2",
        "buy 0 0 0; shop 3 = 3; callOff; shop 3 = 3");
    edge("shop 4, 5 and 6: KEPT ones, TAKEN BACK, GIVEN BACK",
        "wish 1 9; wish 5 9; guest 99; apart 2; buy 0 0 0; buy 2 0 0; buy 2 0 1; shop 4 = 3; join 2",
        "shop 4 = 2; shop 5 = 1; shop 6 = 0; giveBack 0 1; shop 4 = 1; shop 5 = 1; shop 6 = 1; callOff",
        "shop 4 = 0; shop 5 = 1; shop 6 = 2");
    edge("shop 9: HOLDS ever",
        "wish 5 9; guest 99; hold 0 0 0 1; hold 0 0 0 2; shop 9 = 2; buy 0 0 0; pass 5; shop 9 = 2; strike 0",
        "shop 9 = 2");
    edge("shop 10: those that stand, wherever",
        "wish 5 9; guest 99; apart 2; hold 2 0 0 4; hold 0 0 0 5; shop 10 = 2; pass 4; shop 10 = 1",
        "buy 0 0 0; shop 10 = 0");
    edge("shop 11: 1 if CALLED OFF, otherwise 0", "shop 11 = 0; callOff; shop 11 = 1; pass 1; shop 11 = 1");
  }

  private static void shopPence() {
    edge("shop 7: pence PAID ever (PLEDGES, too)",
        "wish 5 9; shared 50; guest 99; buy 0 0 0; shop 7 = 9; pledge 0 1 20; shop 7 = 29; giveBack 0 0",
        "shop 7 = 29; price 0 3; buy 0 0 0; shop 7 = 32; pledge 0 1 40; shop 7 = 62");
    edge("shop 8: pence that went back ever: GIVEN BACK",
        "wish 5 9; guest 99; buy 0 0 0; shop 8 = 0; giveBack 0 0; shop 8 = 9; buy 0 0 0; giveBack 0 0",
        "shop 8 = 18");
    edge("shop 8: pence that went back ever: TAKEN BACK",
        "wish 1 9; guest 99; apart 2; buy 0 0 0; buy 2 0 0; join 2; shop 8 = 9; ofGuest 0 0 = 90");
    edge("shop 8: pence that went back ever: PLEDGES",
        "shared 50; guest 99; pledge 0 0 30; price 0 20; shop 8 = 10; shared 60; pledge 0 1 5; strike 1",
        "shop 8 = 15; callOff = 20; shop 8 = 35; shop 7 = 35");
  }

  private static void isSound() {
    edge("SOUND: more KEPT than COUNT, as one TILL is APART",
        "wish 1 9; guest 99; apart 2; buy 0 0 0; buy 2 0 0; isSound = true; join 2; isSound = true");
    edge("SOUND: TILLS that are APART SEE less",
        "wish 5 9; guest 99; apart 2; apart 1; buy 0 0 0; isSound = true; join 1; isSound = true; join 2",
        "isSound = true");
    edge("SOUND: an empty PURSE",
        "wish 5 9; guest 9; buy 0 0 0; isSound = true; giveBack 0 0; isSound = true");
    edge("SOUND: who is ORDERED lacks nothing",
        "shared 9; guest 9; pledge 0 0 9; isSound = true; callOff; isSound = true");
  }

  private static void digest() {
    edge("digest wraps around as a 64-bit integer", "digest = " + digestOfNew());
  }

  /** Twelve zeros of the shop, for each TILL 1 and six zeros, and 1 as it is SOUND. */
  private static long digestOfNew() {
    BigInteger by = BigInteger.valueOf(31);
    BigInteger d = BigInteger.valueOf(4909).multiply(by.pow(12));
    for (int till = 0; till < 3; till++) {
      d = d.multiply(by).add(BigInteger.ONE).multiply(by.pow(6));
    }
    return d.multiply(by).add(BigInteger.ONE).longValue();
  }
}
