/** The document's part 3: HOLDS, and guests who change their minds, sentence by sentence. */
public final class HoldEdgesTest {
  private static final Checks checks = new Checks();

  private static void edge(String sentence, String... calls) {
    Run.check(checks, sentence, calls);
  }

  public static void main(String[] args) {
    howMany();
    howLong();
    standing();
    oneOfLeft();
    howLongAgo();
    lastGift();
    whatGoesBack();
    checks.end();
  }

  private static void howMany() {
    edge("HOLDS are at most 20 ever, numbered from 0 as they come",
        "wish 5 10; guest 9; hold 0 0 0 60 = 0; hold 2 0 0 60 = 1; apart 1; hold 1 0 0 60 = 2; shop 9 = 3");
    edge("HOLDS are at most 20 ever: the last one",
        "wish 5 10; guest 9;" + "hold 0 0 0 1; pass 1;".repeat(19),
        "shop 9 = 19; hold 0 0 0 1 = 19; shop 9 = 20; left 0 0 = 4; hold 0 0 0 1 ! state; shop 9 = 20");
    edge("HOLDS are at most 20 ever, though none stands",
        "wish 5 10; guest 9;" + "hold 0 0 0 1; pass 1;".repeat(20),
        "shop 10 = 0; left 0 0 = 5; hold 0 0 0 1 ! state; shop 9 = 20");
    edge("HOLDS are at most 20 ever, used ones among them",
        "wish 5 1; guest 99;" + "hold 0 0 0 60; buy 0 0 0; giveBack 0 0;".repeat(20),
        "left 0 0 = 5; hold 0 0 0 1 ! state; buy 0 0 0 = 20");
    edge("HOLDS are at most 20 ever, of all WISHES, at all TILLS, by all GUESTS",
        "4 * wish 5 10; guest 9; guest 9; 5 * hold 0 0 0 60; 5 * hold 1 1 1 60; apart 2; 5 * hold 2 0 2 60",
        "4 * hold 2 1 3 60; hold 0 0 3 60 = 19; hold 1 1 3 60 ! state; hold 2 0 3 60 ! state; shop 10 = 20");
  }

  private static void howLong() {
    edge("for 1 to 60 MINUTES: too few",
        "wish 5 10; guest 9; hold 0 0 0 0 ! argument; hold 0 0 0 -1 ! argument; hold 0 0 0 lowest ! argument",
        "shop 9 = 0");
    edge("for 1 to 60 MINUTES: fewest",
        "wish 5 10; guest 9; hold 0 0 0 1 = 0; hold 0 0 0 2 = 1; shop 10 = 2");
    edge("for 1 to 60 MINUTES: most",
        "wish 5 10; guest 9; hold 0 0 0 59 = 0; hold 0 0 0 60 = 1; shop 10 = 2");
    edge("for 1 to 60 MINUTES: too many",
        "wish 5 10; guest 9; hold 0 0 0 61 ! argument; hold 0 0 0 highest ! argument; shop 9 = 0");
  }

  private static void standing() {
    edge("It stands as long as fewer MINUTES went by: 1",
        "wish 5 10; guest 9; hold 0 0 0 1; shop 10 = 1; left 0 0 = 4; pass 1 = 0; left 0 0 = 5",
        "ofGuest 0 5 = 0");
    edge("It stands as long as fewer MINUTES went by: 2",
        "wish 5 10; guest 9; hold 0 0 0 2; pass 1 = 1; ofGuest 0 5 = 1; pass 1 = 0; shop 10 = 0");
    edge("It stands as long as fewer MINUTES went by: 60",
        "wish 5 10; guest 9; hold 0 0 0 60; pass 59 = 1; ofTill 1 2 = 1; pass 1 = 0; ofTill 1 2 = 0",
        "shop 9 = 1");
    edge("It stands as long as fewer MINUTES went by: many at once",
        "wish 5 10; guest 9; hold 0 0 0 60; pass 500 = 0; pass 500 = 0");
    edge("It stands as long as fewer MINUTES went by since it came",
        "wish 5 10; guest 9; pass 30; hold 0 0 0 10; pass 9 = 1; hold 0 0 0 10; pass 1 = 1; pass 8 = 1",
        "pass 1 = 0");
    edge("and it is not used",
        "wish 5 10; guest 99; hold 0 0 0 60; hold 0 0 0 60; buy 0 0 0; pass 1 = 1; shop 9 = 2",
        "ofGuest 0 5 = 1; ofTill 0 2 = 1");
    edge("and its WISH is not STRUCK",
        "wish 5 10; wish 5 10; guest 99; hold 0 0 0 60; hold 0 0 1 60; strike 0; shop 10 = 1",
        "ofGuest 0 5 = 1; ofTill 0 2 = 1; pass 59 = 1");
    edge("pass tells all that stand, wherever",
        "wish 5 10; guest 9; guest 9; apart 0; apart 1; hold 0 0 0 60; hold 1 1 0 60; hold 2 0 0 60",
        "pass 1 = 3; ofTill 0 2 = 1; ofTill 2 2 = 1");
  }

  private static void oneOfLeft() {
    edge("A GUEST HOLDS one of LEFT: the last one, and none",
        "wish 2 10; guest 9; hold 0 0 0 60; hold 0 0 0 60 = 1; left 0 0 = 0; hold 0 0 0 60 ! state",
        "hold 2 0 0 60 ! state");
    edge("A GUEST HOLDS one of LEFT: none beside GIFTS",
        "wish 1 10; guest 99; buy 0 0 0; hold 0 0 0 60 ! state; giveBack 0 0; hold 0 0 0 60 = 0");
    edge("A GUEST HOLDS one of LEFT at that TILL",
        "wish 1 10; guest 9; apart 2; hold 0 0 0 60 = 0; hold 1 0 0 60 ! state; hold 2 0 0 60 = 1",
        "hold 2 0 0 60 ! state");
    edge("Nothing is LEFT of one that is SHARED", "shared 10; guest 99; hold 0 0 0 60 ! state; shop 9 = 0");
    edge("Nothing is LEFT of one that is STRUCK",
        "wish 5 10; guest 99; strike 0; hold 0 0 0 60 ! state; shop 9 = 0");
    edge("No PURSE is asked for a HOLD",
        "wish 1 999; guest 0; hold 0 0 0 60 = 0; buy 0 0 0 ! state; shop 10 = 1; shop 7 = 0");
    edge("No such GUEST or WISH to hold",
        "wish 1 1; guest 9; hold 0 -1 0 1 ! index; hold 0 1 0 1 ! index; hold 0 0 -1 1 ! index",
        "hold 0 0 1 1 ! index; hold 0 lowest 0 1 ! index; hold 0 highest 0 1 ! index",
        "hold 0 0 lowest 1 ! index; hold 0 0 highest 1 ! index");
  }

  private static void howLongAgo() {
    edge("if that was no more than 100 MINUTES ago: just now",
        "wish 5 10; guest 99; buy 0 0 0; giveBack 0 0 = 10; ofGuest 0 0 = 99");
    edge("if that was no more than 100 MINUTES ago: 99",
        "wish 5 10; guest 99; buy 0 0 0; pass 99; giveBack 0 0 = 10");
    edge("if that was no more than 100 MINUTES ago: 100",
        "wish 5 10; guest 99; buy 0 0 0; pass 100; giveBack 0 0 = 10; ofGift 0 5 = 2");
    edge("if that was no more than 100 MINUTES ago: 101",
        "wish 5 10; guest 99; buy 0 0 0; pass 101; giveBack 0 0 ! state; ofGift 0 5 = 0; ofGuest 0 0 = 89");
    edge("if that was no more than 100 MINUTES ago: of two, one that was",
        "wish 5 10; guest 99; buy 0 0 0; pass 1; buy 0 0 0; pass 100; giveBack 0 0 = 10; ofGift 1 5 = 2",
        "giveBack 0 0 ! state; ofGift 0 5 = 0");
    edge("if that was no more than 100 MINUTES ago: at MINUTE 9999",
        "wish 5 10; guest 99; 19 * pass 500; pass 398; buy 0 0 0; pass 1; buy 0 0 0; pass 100",
        "giveBack 0 0 = 10; giveBack 0 0 ! state; shop 0 = 9999");
  }

  private static void lastGift() {
    edge("The last GIFT of a WISH that a GUEST bought",
        "wish 5 10; guest 99; buy 0 0 0; price 0 20; buy 0 0 0; price 0 30; giveBack 0 0 = 20",
        "ofGift 0 5 = 0; ofGift 1 5 = 2; giveBack 0 0 = 10; giveBack 0 0 ! state");
    edge("The last GIFT is that with the greatest number, whichever TILL",
        "wish 5 10; guest 99; apart 2; buy 0 0 0; price 0 11; buy 2 0 0; price 0 12; buy 1 0 0",
        "giveBack 0 0 = 12; giveBack 0 0 = 11; giveBack 0 0 = 10");
    edge("whichever TILL: one that no JOINED one SEES",
        "wish 5 10; guest 99; apart 2; buy 2 0 0; giveBack 0 0 = 10; ofTill 2 3 = 0; left 2 0 = 5");
    edge("of those that are KEPT: not one that was TAKEN BACK",
        "wish 2 10; guest 99; guest 99; apart 2; buy 0 0 0; buy 0 1 0; price 0 20; buy 2 0 0; join 2 = 1",
        "giveBack 0 0 = 10; giveBack 0 0 ! state; ofGift 2 5 = 1; ofGift 0 5 = 2");
    edge("of those that are KEPT: none",
        "wish 1 10; guest 99; giveBack 0 0 ! state; buy 0 0 0; giveBack 0 0 = 10; giveBack 0 0 ! state",
        "shop 6 = 1");
    edge("that this GUEST bought",
        "wish 2 10; guest 99; guest 99; buy 0 0 0; buy 0 1 0; giveBack 0 0 = 10; ofGift 1 5 = 0",
        "giveBack 0 0 ! state; giveBack 1 0 = 10");
    edge("of this WISH",
        "wish 1 10; wish 1 20; guest 99; buy 0 0 0; buy 0 0 1; giveBack 0 0 = 10; ofGift 1 5 = 0",
        "giveBack 0 0 ! state; giveBack 0 1 = 20");
    edge("of a STRUCK WISH, too",
        "wish 1 10; guest 99; buy 0 0 0; strike 0 = 0; giveBack 0 0 = 10; left 0 0 = 0; ofGuest 0 0 = 99");
    edge("of a SHARED WISH there is no GIFT",
        "shared 10; guest 99; pledge 0 0 5; giveBack 0 0 ! state; ofWish 0 6 = 5");
    edge("No such GUEST or WISH to give back",
        "wish 1 1; guest 9; buy 0 0 0; giveBack -1 0 ! index; giveBack 1 0 ! index; giveBack 0 -1 ! index",
        "giveBack 0 1 ! index; giveBack lowest 0 ! index; giveBack highest 0 ! index",
        "giveBack 0 lowest ! index; giveBack 0 highest ! index");
  }

  private static void whatGoesBack() {
    edge("The price that was paid goes back, not that of now",
        "wish 5 10; guest 99; buy 0 0 0; price 0 999; giveBack 0 0 = 10; ofGuest 0 0 = 99; shop 8 = 10",
        "shop 7 = 10");
    edge("What was GIVEN BACK is LEFT again, where it was SEEN",
        "wish 1 10; guest 99; apart 2; buy 2 0 0; left 0 0 = 1; left 2 0 = 0; giveBack 0 0; left 2 0 = 1",
        "left 0 0 = 1; buy 2 0 0 = 1");
    edge("What was GIVEN BACK is on no card",
        "wish 2 10; guest 99; guest 99; buy 0 0 0; buy 0 1 0; giveBack 0 0; card 0 = 1; giveBack 1 0",
        "card 0 = none");
  }
}
