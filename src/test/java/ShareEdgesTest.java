/** The document's part 4: PLEDGES of SHARED WISHES, sentence by sentence. */
public final class ShareEdgesTest {
  private static final Checks checks = new Checks();

  private static void edge(String sentence, String... calls) {
    Run.check(checks, sentence, calls);
  }

  public static void main(String[] args) {
    pence();
    purse();
    lacking();
    ordered();
    struck();
    priceFalls();
    fromTheLast();
    goneWholly();
    checks.end();
  }

  private static void pence() {
    edge("pence is 1 to 9999: too few",
        "shared 50; guest 99; pledge 0 0 0 ! argument; pledge 0 0 -1 ! argument",
        "pledge 0 0 lowest ! argument; shop 7 = 0");
    edge("pence is 1 to 9999: fewest",
        "shared 50; guest 99; pledge 0 0 1 = 1; ofGuest 0 0 = 98; ofGuest 0 3 = 1; pledge 0 0 2 = 2",
        "ofWish 0 6 = 3");
    edge("pence is 1 to 9999: most",
        "shared 9999; shared 9999; guest 9999; guest 9999; pledge 0 0 9998 = 9998; pledge 1 1 9999 = 9999",
        "ofGuest 1 0 = 0; ofWish 0 8 = 0; ofWish 1 8 = 1");
    edge("pence is 1 to 9999: too many",
        "shared 9999; guest 9999; pledge 0 0 10000 ! argument; pledge 0 0 highest ! argument; shop 7 = 0");
    edge("No such GUEST or WISH to pledge",
        "shared 50; guest 99; pledge -1 0 1 ! index; pledge 1 0 1 ! index; pledge 0 -1 1 ! index",
        "pledge 0 1 1 ! index; pledge lowest 0 1 ! index; pledge highest 0 1 ! index",
        "pledge 0 lowest 1 ! index; pledge 0 highest 1 ! index");
    edge("One that is not SHARED: nothing is pledged",
        "wish 5 50; guest 99; pledge 0 0 1 ! state; pledge 0 0 50 ! state; ofWish 0 6 = 0; ofWish 0 7 = 0",
        "ofWish 0 8 = 0");
  }

  private static void purse() {
    edge("out of its PURSE: a penny less",
        "shared 99; guest 49; pledge 0 0 50 ! state; ofGuest 0 0 = 49; ofWish 0 6 = 0");
    edge("out of its PURSE: just so many",
        "shared 99; guest 50; pledge 0 0 50 = 50; ofGuest 0 0 = 0; ofGuest 0 3 = 50; shop 7 = 50");
    edge("out of its PURSE: a penny more",
        "shared 99; guest 51; pledge 0 0 50 = 50; ofGuest 0 0 = 1; pledge 0 0 2 ! state; pledge 0 0 1 = 1");
    edge("out of its PURSE: nothing in it", "shared 99; guest 0; pledge 0 0 1 ! state; card 0 = none");
    edge("The PURSE has less than pence, though LACKING is less still",
        "shared 10; guest 49; pledge 0 0 50 ! state; pledge 0 0 49 = 10; ofGuest 0 0 = 39");
  }

  private static void lacking() {
    edge("at most what is LACKING: a penny less",
        "shared 50; guest 99; pledge 0 0 49 = 49; ofWish 0 7 = 1; ofWish 0 8 = 0; ofGuest 0 0 = 50");
    edge("at most what is LACKING: just so many",
        "shared 50; guest 99; pledge 0 0 50 = 50; ofWish 0 7 = 0; ofWish 0 8 = 1; ofGuest 0 0 = 49");
    edge("at most what is LACKING: a penny more",
        "shared 50; guest 99; pledge 0 0 51 = 50; ofWish 0 7 = 0; ofWish 0 8 = 1; ofGuest 0 0 = 49",
        "shop 7 = 50");
    edge("LACKING is PRICE, less all PLEDGES of it",
        "shared 50; shared 60; guest 99; guest 99; ofWish 0 7 = 50; pledge 0 0 5; pledge 1 0 7; pledge 0 0 1",
        "pledge 0 1 3; ofWish 0 7 = 37; ofWish 0 6 = 13; ofWish 1 7 = 57; ofGuest 0 3 = 9");
    edge("LACKING goes with the PRICE",
        "shared 50; guest 99; pledge 0 0 20; price 0 60 = 0; ofWish 0 7 = 40; price 0 21 = 0; ofWish 0 7 = 1",
        "pledge 0 0 9 = 1");
    edge("LACKING is 0, if it is not SHARED",
        "wish 5 50; ofWish 0 7 = 0; ofWish 0 8 = 0; strike 0; ofWish 0 7 = 0");
  }

  private static void ordered() {
    edge("It is ORDERED, if nothing is LACKING: a penny",
        "shared 1; guest 99; ofWish 0 8 = 0; pledge 0 0 1 = 1; ofWish 0 8 = 1");
    edge("then its PRICE does not change any more",
        "shared 50; guest 99; pledge 0 0 50; price 0 49 ! state; price 0 50 ! state; price 0 51 ! state",
        "ofWish 0 1 = 50");
    edge("Before that its PRICE changes",
        "shared 50; guest 99; pledge 0 0 49; price 0 51 = 0; ofWish 0 1 = 51; ofWish 0 7 = 2");
    edge("One that is ORDERED is not STRUCK",
        "shared 50; guest 99; pledge 0 0 50; strike 0 ! state; ofWish 0 3 = 0; ofWish 0 6 = 50");
    edge("Nothing more is pledged of one that is ORDERED",
        "shared 50; guest 99; pledge 0 0 50; pledge 0 0 1 ! state; pledge 0 0 49 ! state; ofGuest 0 0 = 49");
    edge("It is ORDERED by several",
        "shared 50; 3 * guest 99; pledge 0 0 20; pledge 1 0 20; ofWish 0 8 = 0; pledge 2 0 20 = 10",
        "ofWish 0 8 = 1; card 0 = +012");
    edge("only as it is CALLED OFF it is not ORDERED any more",
        "shared 50; guest 99; pledge 0 0 50; pass 500; ofWish 0 8 = 1; callOff = 50; ofWish 0 8 = 0",
        "ofWish 0 7 = 50; ofWish 0 6 = 0; ofGuest 0 0 = 99");
    edge("Another one is not ORDERED by it",
        "shared 50; shared 50; guest 99; pledge 0 0 50; ofWish 1 8 = 0; price 1 40 = 0; strike 1 = 0");
  }

  private static void struck() {
    edge("If it is STRUCK, all PLEDGES of it go back",
        "shared 50; guest 99; guest 60; pledge 0 0 9; pledge 1 0 8; pledge 0 0 7; strike 0 = 24",
        "ofGuest 0 0 = 99; ofGuest 1 0 = 60; ofGuest 0 3 = 0; ofWish 0 6 = 0; shop 8 = 24; card 0 = none");
    edge("If it is STRUCK without PLEDGES, nothing goes back",
        "shared 50; guest 99; strike 0 = 0; shop 8 = 0; ofWish 0 7 = 50; ofWish 0 8 = 0");
    edge("If it is STRUCK with a penny LACKING, all go back",
        "shared 50; guest 99; pledge 0 0 49; strike 0 = 49; ofGuest 0 0 = 99");
    edge("PLEDGES of another one stay",
        "shared 50; shared 50; guest 99; pledge 0 0 9; pledge 0 1 8; strike 0 = 9; ofWish 1 6 = 8",
        "ofGuest 0 3 = 8");
  }

  private static void priceFalls() {
    edge("As a PRICE falls below its PLEDGES: a penny above them",
        "shared 90; guest 99; pledge 0 0 40; price 0 41 = 0; ofWish 0 8 = 0; ofWish 0 7 = 1; shop 8 = 0",
        "price 0 90 = 0");
    edge("As a PRICE falls below its PLEDGES: to just these",
        "shared 90; guest 99; pledge 0 0 40; price 0 40 = 0; ofWish 0 8 = 1; ofWish 0 7 = 0; shop 8 = 0",
        "price 0 90 ! state");
    edge("As a PRICE falls below its PLEDGES: a penny below them",
        "shared 90; guest 99; pledge 0 0 40; price 0 39 = 1; ofWish 0 6 = 39; ofWish 0 8 = 1",
        "ofGuest 0 0 = 60; ofGuest 0 3 = 39; shop 8 = 1; price 0 38 ! state");
    edge("As a PRICE falls to a penny",
        "shared 90; guest 99; pledge 0 0 40; price 0 1 = 39; ofWish 0 6 = 1; ofGuest 0 0 = 98",
        "ofWish 0 8 = 1");
    edge("As a PRICE rises, nothing goes back",
        "shared 90; guest 99; pledge 0 0 40; price 0 9999 = 0; ofWish 0 6 = 40; ofWish 0 7 = 9959");
    edge("As the PRICE of one that is not SHARED falls, nothing goes back",
        "wish 5 90; guest 99; buy 0 0 0; price 0 1 = 0; ofGuest 0 0 = 9; ofGift 0 4 = 90");
  }

  private static void fromTheLast() {
    String three = "shared 90; 3 * guest 99; pledge 2 0 10; pledge 0 0 20; pledge 1 0 5;";
    edge("from the last PLEDGE on: some of it",
        three,
        "price 0 31 = 4; ofGuest 1 3 = 1; ofGuest 0 3 = 20; ofGuest 2 3 = 10; card 0 = +012");
    edge("from the last PLEDGE on: just all of it",
        three,
        "price 0 30 = 5; ofGuest 1 3 = 0; ofGuest 0 3 = 20; ofGuest 2 3 = 10; card 0 = +02");
    edge("from the last PLEDGE on: and a penny of the one before",
        three,
        "price 0 29 = 6; ofGuest 1 3 = 0; ofGuest 0 3 = 19; ofGuest 2 3 = 10; card 0 = +02");
    edge("from the last PLEDGE on: and all of the one before",
        three,
        "price 0 10 = 25; ofGuest 1 3 = 0; ofGuest 0 3 = 0; ofGuest 2 3 = 10; card 0 = +2");
    edge("from the last PLEDGE on: and some of the first one",
        three,
        "price 0 3 = 32; ofGuest 1 3 = 0; ofGuest 0 3 = 0; ofGuest 2 3 = 3; ofGuest 2 0 = 96");
    edge("each time a PLEDGE of its own",
        "shared 90; guest 99; guest 99; pledge 0 0 10; pledge 1 0 20; pledge 0 0 5; price 0 28 = 7",
        "ofGuest 0 3 = 10; ofGuest 1 3 = 18; ofGuest 0 0 = 89");
    edge("each time a PLEDGE of its own, one behind the other",
        "shared 90; guest 99; guest 99; pledge 1 0 7; pledge 0 0 10; pledge 0 0 5; price 0 9 = 13",
        "ofGuest 0 3 = 2; ofGuest 1 3 = 7");
    edge("PLEDGES of another WISH stay",
        "shared 90; shared 90; guest 99; pledge 0 0 10; pledge 0 1 20; price 0 4 = 6; ofWish 1 6 = 20",
        "ofGuest 0 3 = 24");
  }

  private static void goneWholly() {
    edge("PLEDGES have no limit but LACKING",
        "shared 240; guest 999; guest 99; pledge 1 0 1; 230 * pledge 0 0 1; ofWish 0 6 = 231; pledge 1 0 5 = 5",
        "price 0 3 = 233; ofGuest 0 3 = 2; ofGuest 1 3 = 1; ofWish 0 8 = 1; card 0 = +01");
    edge("one that went back wholly is none: on the card",
        "shared 90; guest 99; guest 99; pledge 0 0 10; pledge 1 0 5; price 0 10 = 5; card 0 = +0");
    edge("one that went back wholly is none: for FILL",
        "shared 90; wish 5 1; guest 99; guest 99; pledge 0 0 10; pledge 1 0 5; ofTill 0 4 = 0",
        "price 0 11 = 4; ofTill 0 4 = 0");
    edge("one that went back wholly is none: for FILL, wholly",
        "shared 90; wish 5 1; guest 99; guest 99; pledge 0 0 10; pledge 1 0 5; price 0 10 = 5",
        "ofTill 0 4 = 1");
    edge("one that went back as it was STRUCK is none",
        "shared 90; wish 5 1; guest 99; guest 99; pledge 0 0 10; pledge 1 0 5; strike 0 = 15; ofTill 0 4 = 2",
        "card 0 = none");
  }
}
