/** For each promise of the document: ordinary inputs, the edges that it names, and wrong inputs. */
public final class PromisesTest {
  private static final Class<IllegalArgumentException> ARGUMENT = IllegalArgumentException.class;
  private static final Class<IllegalStateException> STATE = IllegalStateException.class;
  private static final Class<IndexOutOfBoundsException> INDEX = IndexOutOfBoundsException.class;
  private static final int LOWEST = Integer.MIN_VALUE;
  private static final int HIGHEST = Integer.MAX_VALUE;

  private static final Checks checks = new Checks();

  private static void same(String name, Object got, Object due) {
    checks.same(name, got, due);
  }

  /** The call must throw just this, and leave all as it was. */
  private static void refused(Tureenlist x, String name, Class<? extends RuntimeException> due,
      Checks.Call call) {
    long before = x.digest();
    checks.refused(name, due, call);
    same(name + " changes nothing", x.digest(), before);
  }

  private static Tureenlist list(int guests, int purse) {
    Tureenlist x = new Tureenlist();
    for (int g = 0; g < guests; g++) {
      x.guest(purse);
    }
    return x;
  }

  private static void pass(Tureenlist x, int minutes) {
    int rest = minutes;
    while (rest > 500) {
      x.pass(500);
      rest -= 500;
    }
    if (rest > 0) {
      x.pass(rest);
    }
  }

  public static void main(String[] args) {
    promise1();
    promise2();
    promise3();
    promise4();
    promise5();
    promise5Pledges();
    promise6();
    promise7();
    promise8();
    promise8Law();
    promise8Sight();
    promise9();
    promise10();
    promise10Holds();
    promise11();
    promise12();
    promise13();
    promise14();
    promise15();
    promise16();
    promise17();
    promise18();
    promise18Fill();
    promise19();
    promise20();
    promise21();
    promise22();
    promise23();
    promise24();
    promise25();
    checks.end();
  }

  private static void promise1() {
    Tureenlist x = new Tureenlist();
    for (int what = 0; what <= 11; what++) {
      same("1 shop " + what, x.shop(what), 0);
    }
    for (int till = 0; till < 3; till++) {
      same("1 joined " + till, x.ofTill(till, 0), 1);
      same("1 fill " + till, x.ofTill(till, 4), 0);
      same("1 left " + till, x.ofTill(till, 5), 0);
    }
    refused(x, "1 no wish", INDEX, () -> x.ofWish(0, 0));
    refused(x, "1 no guest", INDEX, () -> x.ofGuest(0, 0));
    refused(x, "1 no gift", INDEX, () -> x.ofGift(0, 0));
  }

  private static void promise2() {
    Tureenlist x = new Tureenlist();
    same("2 first", x.wish(1, 1), 0);
    same("2 second", x.wish(5, 999), 1);
    same("2 count", x.ofWish(1, 0), 5);
    same("2 price", x.ofWish(1, 1), 999);
    same("2 not shared", x.ofWish(1, 2), 0);
    for (int bad : new int[] {0, -1, 6, LOWEST, HIGHEST}) {
      refused(x, "2 count " + bad, ARGUMENT, () -> x.wish(bad, 10));
    }
    for (int bad : new int[] {0, -1, 1000, LOWEST, HIGHEST}) {
      refused(x, "2 price " + bad, ARGUMENT, () -> x.wish(1, bad));
    }
    for (int n = 2; n < 8; n++) {
      same("2 number " + n, n % 2 == 0 ? x.wish(1, 1) : x.shared(1), n);
    }
    refused(x, "2 ninth", STATE, () -> x.wish(1, 1));
    refused(x, "2 ninth, count wrong", ARGUMENT, () -> x.wish(0, 1));
    Tureenlist off = new Tureenlist();
    off.callOff();
    refused(off, "2 called off", STATE, () -> off.wish(1, 1));
    refused(off, "2 called off, price wrong", ARGUMENT, () -> off.wish(1, 0));
  }

  private static void promise3() {
    Tureenlist x = new Tureenlist();
    same("3 first", x.shared(1), 0);
    same("3 second", x.shared(9999), 1);
    same("3 price", x.ofWish(1, 1), 9999);
    same("3 shared", x.ofWish(1, 2), 1);
    same("3 count", x.ofWish(1, 0), 1);
    same("3 left", x.left(0, 1), 0);
    for (int bad : new int[] {0, -1, 10000, LOWEST, HIGHEST}) {
      refused(x, "3 price " + bad, ARGUMENT, () -> x.shared(bad));
    }
    for (int n = 2; n < 8; n++) {
      x.shared(5);
    }
    refused(x, "3 ninth", STATE, () -> x.shared(1));
    refused(x, "3 ninth, price wrong", ARGUMENT, () -> x.shared(0));
    Tureenlist off = new Tureenlist();
    off.callOff();
    refused(off, "3 called off", STATE, () -> off.shared(1));
  }

  private static void promise4() {
    Tureenlist x = new Tureenlist();
    same("4 first", x.guest(0), 0);
    same("4 second", x.guest(9999), 1);
    same("4 purse 0", x.ofGuest(0, 0), 0);
    same("4 purse 1", x.ofGuest(1, 0), 9999);
    for (int bad : new int[] {-1, 10000, LOWEST, HIGHEST}) {
      refused(x, "4 purse " + bad, ARGUMENT, () -> x.guest(bad));
    }
    x.callOff();
    for (int n = 2; n < 6; n++) {
      same("4 though called off " + n, x.guest(n), n);
    }
    refused(x, "4 seventh", STATE, () -> x.guest(1));
    refused(x, "4 seventh, purse wrong", ARGUMENT, () -> x.guest(-1));
  }

  private static void promise5() {
    Tureenlist x = list(1, 1000);
    x.wish(2, 100);
    x.shared(500);
    x.buy(0, 0, 0);
    same("5 nothing back", x.price(0, 300), 0);
    same("5 new price", x.ofWish(0, 1), 300);
    same("5 what was paid stays", x.ofGift(0, 4), 100);
    x.buy(0, 0, 0);
    same("5 the new one is paid", x.ofGuest(0, 0), 600);
    same("5 highest", x.price(0, 999), 0);
    same("5 lowest", x.price(0, 1), 0);
    same("5 shared highest", x.price(1, 9999), 0);
    for (int bad : new int[] {0, -1, 1000, LOWEST, HIGHEST}) {
      refused(x, "5 price " + bad, ARGUMENT, () -> x.price(0, bad));
    }
    for (int bad : new int[] {0, -1, 10000, LOWEST, HIGHEST}) {
      refused(x, "5 shared price " + bad, ARGUMENT, () -> x.price(1, bad));
    }
    for (int bad : new int[] {-1, 2, LOWEST, HIGHEST}) {
      refused(x, "5 wish " + bad, INDEX, () -> x.price(bad, 0));
    }
    x.strike(0);
    refused(x, "5 struck", STATE, () -> x.price(0, 5));
    refused(x, "5 struck, price wrong", ARGUMENT, () -> x.price(0, 0));
    x.callOff();
    refused(x, "5 called off", STATE, () -> x.price(1, 5));
  }

  private static void promise5Pledges() {
    Tureenlist x = list(3, 100);
    x.shared(90);
    x.pledge(0, 0, 20);
    x.pledge(1, 0, 10);
    x.pledge(0, 0, 7);
    x.pledge(2, 0, 3);
    same("5 above the pledges", x.price(0, 41), 0);
    same("5 what is too much", x.price(0, 35), 5);
    same("5 the last one wholly", x.ofGuest(2, 3), 0);
    same("5 then as much as there is", x.ofGuest(0, 3), 25);
    same("5 not of the one before", x.ofGuest(1, 3), 10);
    same("5 into the purse", x.ofGuest(0, 0), 75);
    same("5 then ordered", x.ofWish(0, 8), 1);
    same("5 who went back wholly is not on the card", x.card(0), "+01");
    refused(x, "5 ordered", STATE, () -> x.price(0, 30));
    refused(x, "5 ordered, price wrong", ARGUMENT, () -> x.price(0, 10000));
    Tureenlist y = list(1, 100);
    y.shared(50);
    y.pledge(0, 0, 40);
    same("5 just the pledges", y.price(0, 40), 0);
    same("5 ordered by that", y.ofWish(0, 8), 1);
    same("5 lacks nothing", y.ofWish(0, 7), 0);
  }

  private static void promise6() {
    Tureenlist x = list(2, 500);
    x.wish(2, 100);
    x.shared(300);
    x.shared(50);
    x.buy(0, 0, 0);
    x.hold(0, 1, 0, 60);
    x.pledge(0, 1, 30);
    x.pledge(1, 1, 40);
    x.pledge(1, 2, 50);
    refused(x, "6 ordered", STATE, () -> x.strike(2));
    same("6 nothing back", x.strike(0), 0);
    same("6 kept stays", x.ofWish(0, 4), 1);
    same("6 nothing left", x.left(0, 0), 0);
    same("6 no hold stands", x.shop(10), 0);
    same("6 is struck", x.ofWish(0, 3), 1);
    same("6 all pledges go back", x.strike(1), 70);
    same("6 pledges", x.ofWish(1, 6), 0);
    same("6 lacking", x.ofWish(1, 7), 300);
    same("6 purse", x.ofGuest(1, 0), 450);
    refused(x, "6 again", STATE, () -> x.strike(0));
    refused(x, "6 hold of it", STATE, () -> x.buy(0, 1, 0));
    for (int bad : new int[] {-1, 3, LOWEST, HIGHEST}) {
      refused(x, "6 wish " + bad, INDEX, () -> x.strike(bad));
    }
    same("6 can be given back", x.giveBack(0, 0), 100);
    x.wish(1, 1);
    x.callOff();
    refused(x, "6 called off", STATE, () -> x.strike(3));
    refused(x, "6 called off, no wish", INDEX, () -> x.strike(4));
  }

  private static void promise7() {
    Tureenlist x = new Tureenlist();
    same("7 two", x.apart(1), 2);
    same("7 is apart", x.ofTill(1, 0), 0);
    refused(x, "7 again", STATE, () -> x.apart(1));
    same("7 one", x.apart(2), 1);
    same("7 none", x.apart(0), 0);
    for (int bad : new int[] {-1, 3, LOWEST, HIGHEST}) {
      refused(x, "7 till " + bad, INDEX, () -> x.apart(bad));
    }
    x.join(0);
    x.callOff();
    refused(x, "7 called off", STATE, () -> x.apart(0));
    refused(x, "7 called off, no till", INDEX, () -> x.apart(3));
  }

  private static void promise8() {
    Tureenlist x = list(2, 500);
    x.wish(1, 100);
    refused(x, "8 joined", STATE, () -> x.join(0));
    x.apart(0);
    same("8 nothing done", x.join(0), 0);
    same("8 is joined", x.ofTill(0, 0), 1);
    x.apart(0);
    x.buy(0, 0, 0);
    x.buy(1, 1, 0);
    same("8 one", x.join(0), 1);
    same("8 the later till's", x.ofGift(1, 5), 1);
    same("8 its pence", x.ofGuest(1, 0), 500);
    same("8 counted", x.ofGuest(1, 4), 1);
    for (int bad : new int[] {-1, 3, LOWEST, HIGHEST}) {
      refused(x, "8 till " + bad, INDEX, () -> x.join(bad));
    }
    x.apart(2);
    x.callOff();
    refused(x, "8 called off", STATE, () -> x.join(2));
    refused(x, "8 called off, no till", INDEX, () -> x.join(-1));
  }

  private static void promise8Law() {
    Tureenlist x = list(4, 500);
    x.wish(2, 10);
    x.apart(1);
    x.apart(2);
    x.buy(2, 0, 0);
    x.buy(2, 1, 0);
    pass(x, 1);
    x.buy(0, 2, 0);
    x.buy(1, 3, 0);
    same("8 with room", x.join(1), 0);
    same("8 by minute, then by till", x.join(2), 2);
    same("8 earliest", x.ofGift(0, 5), 0);
    same("8 as early", x.ofGift(1, 5), 0);
    same("8 later, till 0", x.ofGift(2, 5), 1);
    same("8 later, till 1", x.ofGift(3, 5), 1);
    Tureenlist y = list(3, 500);
    y.wish(2, 10);
    y.apart(0);
    y.buy(2, 0, 0);
    y.buy(1, 1, 0);
    y.buy(0, 2, 0);
    same("8 same minute", y.join(0), 1);
    same("8 greatest till", y.ofGift(0, 5), 1);
    Tureenlist z = list(3, 500);
    z.wish(2, 10);
    z.apart(2);
    z.buy(2, 0, 0);
    z.buy(2, 1, 0);
    z.buy(0, 2, 0);
    same("8 same till", z.join(2), 1);
    same("8 as bought, first", z.ofGift(0, 5), 0);
    same("8 as bought, last", z.ofGift(1, 5), 1);
  }

  private static void promise8Sight() {
    Tureenlist x = list(3, 500);
    x.wish(5, 10);
    x.buy(0, 0, 0);
    x.apart(2);
    x.apart(1);
    x.buy(1, 1, 0);
    x.buy(2, 2, 0);
    same("8 apart alone", x.left(0, 0), 4);
    same("8 what it saw and its own", x.left(1, 0), 3);
    x.join(1);
    same("8 seen by the joined", x.left(0, 0), 3);
    same("8 not by who is apart", x.left(2, 0), 3);
    x.giveBack(0, 0);
    same("8 as that is now", x.left(2, 0), 4);
    x.apart(0);
    x.apart(1);
    x.join(2);
    same("8 what was open while none is joined", x.left(2, 0), 3);
    same("8 who went apart does not see it", x.left(0, 0), 4);
    Tureenlist y = list(2, 500);
    y.wish(2, 10);
    y.apart(2);
    y.hold(2, 0, 0, 30);
    y.hold(0, 1, 0, 30);
    same("8 hold of another till unseen", y.left(1, 0), 1);
    same("8 holds are not taken back", y.join(2), 0);
    same("8 hold seen", y.left(1, 0), 0);
    same("8 both stand", y.ofTill(2, 2), 2);
  }

  private static void promise9() {
    Tureenlist x = list(2, 0);
    x.wish(2, 100);
    x.shared(5);
    same("9 first, though the purse is empty", x.hold(0, 0, 0, 1), 0);
    same("9 second", x.hold(1, 0, 0, 60), 1);
    refused(x, "9 nothing left", STATE, () -> x.hold(0, 1, 0, 60));
    refused(x, "9 shared", STATE, () -> x.hold(0, 1, 1, 60));
    for (int bad : new int[] {0, -1, 61, LOWEST, HIGHEST}) {
      refused(x, "9 minutes " + bad, ARGUMENT, () -> x.hold(0, 0, 0, bad));
      refused(x, "9 till before minutes " + bad, INDEX, () -> x.hold(3, 0, 0, bad));
    }
    for (int bad : new int[] {-1, 3, LOWEST, HIGHEST}) {
      refused(x, "9 till " + bad, INDEX, () -> x.hold(bad, 0, 0, 1));
      refused(x, "9 guest " + bad, INDEX, () -> x.hold(0, bad, 0, 1));
      refused(x, "9 wish " + bad, INDEX, () -> x.hold(0, 0, bad, 1));
    }
    pass(x, 1);
    same("9 run out", x.left(2, 0), 1);
    for (int n = 2; n < 20; n++) {
      same("9 number " + n, x.hold(0, 0, 0, 1), n);
      pass(x, 1);
    }
    refused(x, "9 twenty", STATE, () -> x.hold(0, 0, 0, 1));
    refused(x, "9 twenty, minutes wrong", ARGUMENT, () -> x.hold(0, 0, 0, 0));
    Tureenlist off = list(1, 5);
    off.wish(1, 1);
    off.callOff();
    refused(off, "9 called off", STATE, () -> off.hold(0, 0, 0, 1));
    Tureenlist struck = list(1, 5);
    struck.wish(1, 1);
    struck.strike(0);
    refused(struck, "9 struck", STATE, () -> struck.hold(0, 0, 0, 1));
  }

  private static void promise10() {
    Tureenlist x = list(2, 100);
    x.wish(2, 100);
    x.wish(1, 101);
    x.shared(5);
    same("10 first", x.buy(2, 1, 0), 0);
    same("10 purse", x.ofGuest(1, 0), 0);
    refused(x, "10 purse too small", STATE, () -> x.buy(0, 0, 1));
    refused(x, "10 purse empty", STATE, () -> x.buy(0, 1, 0));
    refused(x, "10 shared", STATE, () -> x.buy(0, 0, 2));
    for (int bad : new int[] {-1, 3, LOWEST, HIGHEST}) {
      refused(x, "10 till " + bad, INDEX, () -> x.buy(bad, 0, 0));
      refused(x, "10 guest " + bad, INDEX, () -> x.buy(0, bad, 0));
      refused(x, "10 wish " + bad, INDEX, () -> x.buy(0, 0, bad));
    }
    same("10 second", x.buy(0, 0, 0), 1);
    x.guest(500);
    refused(x, "10 nothing left", STATE, () -> x.buy(0, 2, 0));
    x.strike(1);
    refused(x, "10 struck", STATE, () -> x.buy(0, 2, 1));
    Tureenlist many = list(1, 9999);
    many.wish(1, 1);
    for (int n = 0; n < 40; n++) {
      same("10 number " + n, many.buy(0, 0, 0), n);
      many.giveBack(0, 0);
    }
    refused(many, "10 forty", STATE, () -> many.buy(0, 0, 0));
    Tureenlist off = list(1, 5);
    off.wish(1, 1);
    off.callOff();
    refused(off, "10 called off", STATE, () -> off.buy(0, 0, 0));
    refused(off, "10 called off, no wish", INDEX, () -> off.buy(0, 0, 1));
  }

  private static void promise10Holds() {
    Tureenlist x = list(2, 100);
    x.wish(2, 10);
    x.hold(0, 0, 0, 10);
    x.hold(0, 0, 0, 20);
    refused(x, "10 of another's hold", STATE, () -> x.buy(0, 1, 0));
    same("10 by a hold", x.buy(1, 0, 0), 0);
    same("10 one hold ends", x.ofGuest(0, 5), 1);
    pass(x, 10);
    same("10 it was the oldest", x.ofGuest(0, 5), 1);
    x.price(0, 101);
    refused(x, "10 price of now", STATE, () -> x.buy(0, 0, 0));
    same("10 hold stands on", x.ofGuest(0, 5), 1);
    Tureenlist y = list(2, 100);
    y.wish(1, 10);
    y.apart(2);
    y.hold(2, 0, 0, 50);
    y.buy(0, 0, 0);
    same("10 what is left serves where the hold is unseen", y.ofGuest(0, 5), 1);
    y.join(2);
    refused(y, "10 hold does not serve when all are kept", STATE, () -> y.buy(2, 0, 0));
    y.giveBack(0, 0);
    same("10 then it serves", y.buy(2, 0, 0), 1);
    same("10 it is used", y.ofGuest(0, 5), 0);
    Tureenlist z = list(1, 100);
    z.wish(1, 10);
    z.hold(1, 0, 0, 5);
    z.apart(0);
    z.apart(1);
    z.buy(0, 0, 0);
    same("10 used is used wherever it is seen", z.left(1, 0), 1);
    same("10 so one is left there", z.buy(1, 0, 0), 1);
    same("10 and the later till loses", z.join(0) + z.join(1) + z.ofGift(1, 5), 2);
  }

  private static void promise11() {
    Tureenlist x = list(2, 1000);
    x.wish(5, 10);
    x.wish(2, 7);
    x.buy(0, 0, 0);
    x.price(0, 30);
    pass(x, 1);
    x.apart(2);
    x.buy(2, 0, 0);
    x.buy(0, 1, 0);
    x.buy(0, 0, 1);
    same("11 the last one, whichever till", x.giveBack(0, 0), 30);
    same("11 given back", x.ofGift(1, 5), 2);
    same("11 purse", x.ofGuest(0, 0), 983);
    pass(x, 99);
    same("11 a hundred minutes", x.giveBack(0, 0), 10);
    refused(x, "11 none kept", STATE, () -> x.giveBack(0, 0));
    same("11 another guest's", x.giveBack(1, 0), 30);
    refused(x, "11 never bought", STATE, () -> x.giveBack(1, 1));
    x.buy(0, 1, 0);
    pass(x, 1);
    same("11 99 and 1", x.giveBack(0, 1), 7);
    pass(x, 100);
    refused(x, "11 too long ago", STATE, () -> x.giveBack(1, 0));
    for (int bad : new int[] {-1, 2, LOWEST, HIGHEST}) {
      refused(x, "11 guest " + bad, INDEX, () -> x.giveBack(bad, 0));
      refused(x, "11 wish " + bad, INDEX, () -> x.giveBack(0, bad));
    }
    x.callOff();
    refused(x, "11 called off", STATE, () -> x.giveBack(1, 0));
    refused(x, "11 called off, no guest", INDEX, () -> x.giveBack(2, 0));
  }

  private static void promise12() {
    Tureenlist x = list(2, 100);
    x.shared(150);
    x.wish(1, 5);
    x.shared(9);
    same("12 all of the purse", x.pledge(0, 0, 100), 100);
    refused(x, "12 purse empty", STATE, () -> x.pledge(0, 0, 1));
    refused(x, "12 purse has less", STATE, () -> x.pledge(1, 0, 101));
    same("12 at most what is lacking", x.pledge(1, 0, 100), 50);
    same("12 purse", x.ofGuest(1, 0), 50);
    same("12 ordered", x.ofWish(0, 8), 1);
    refused(x, "12 of one ordered", STATE, () -> x.pledge(1, 0, 1));
    refused(x, "12 not shared", STATE, () -> x.pledge(1, 1, 1));
    for (int bad : new int[] {0, -1, 10000, LOWEST, HIGHEST}) {
      refused(x, "12 pence " + bad, ARGUMENT, () -> x.pledge(1, 0, bad));
      refused(x, "12 guest before pence " + bad, INDEX, () -> x.pledge(2, 0, bad));
    }
    for (int bad : new int[] {-1, 3, LOWEST, HIGHEST}) {
      refused(x, "12 guest " + bad, INDEX, () -> x.pledge(bad, 0, 1));
      refused(x, "12 wish " + bad, INDEX, () -> x.pledge(0, bad, 1));
    }
    x.strike(2);
    refused(x, "12 struck", STATE, () -> x.pledge(1, 2, 1));
    Tureenlist off = list(1, 9999);
    off.shared(9999);
    same("12 most", off.pledge(0, 0, 9999), 9999);
    off.callOff();
    refused(off, "12 called off", STATE, () -> off.pledge(0, 0, 1));
  }

  private static void promise13() {
    Tureenlist x = list(1, 5);
    x.wish(3, 1);
    x.hold(0, 0, 0, 1);
    x.hold(0, 0, 0, 2);
    x.apart(1);
    x.hold(1, 0, 0, 60);
    same("13 one minute", x.pass(1), 2);
    same("13 another", x.pass(1), 1);
    same("13 up to the last", x.pass(57), 1);
    same("13 none", x.pass(1), 0);
    for (int bad : new int[] {0, -1, 501, LOWEST, HIGHEST}) {
      refused(x, "13 minutes " + bad, ARGUMENT, () -> x.pass(bad));
    }
    pass(x, 9900);
    refused(x, "13 above 9999", STATE, () -> x.pass(40));
    same("13 to 9999", x.pass(39), 0);
    same("13 minute", x.shop(0), 9999);
    refused(x, "13 one more", STATE, () -> x.pass(1));
    refused(x, "13 wrong at the end", ARGUMENT, () -> x.pass(501));
    Tureenlist off = list(1, 5);
    off.wish(1, 1);
    off.hold(0, 0, 0, 60);
    off.callOff();
    same("13 holds stand on though called off", off.pass(59), 1);
  }

  private static void promise14() {
    Tureenlist x = list(2, 1000);
    x.wish(1, 100);
    x.wish(3, 10);
    x.shared(500);
    x.shared(5);
    x.apart(2);
    x.buy(2, 0, 0);
    x.buy(0, 1, 0);
    x.join(2);
    x.apart(1);
    x.buy(1, 0, 1);
    x.buy(0, 0, 1);
    x.giveBack(0, 1);
    x.pledge(1, 2, 60);
    x.pledge(1, 3, 5);
    x.hold(0, 0, 1, 9);
    pass(x, 200);
    same("14 all that is kept and pledged, however old", x.callOff(), 175);
    same("14 purse 0", x.ofGuest(0, 0), 1000);
    same("14 purse 1", x.ofGuest(1, 0), 1000);
    same("14 taken back stays so", x.shop(5), 1);
    same("14 given back", x.shop(6), 3);
    same("14 not ordered any more", x.ofWish(3, 8), 0);
    same("14 lacks all", x.ofWish(3, 7), 5);
    same("14 called off", x.shop(11), 1);
    refused(x, "14 again", STATE, () -> x.callOff());
    same("14 empty list", new Tureenlist().callOff(), 0);
    Tureenlist one = list(1, 9);
    one.shared(10);
    one.pledge(0, 0, 9);
    same("14 the first wish's pledges", one.callOff(), 9);
  }

  private static void promise15() {
    Tureenlist x = list(3, 1000);
    x.wish(2, 100);
    x.shared(300);
    x.apart(0);
    x.buy(0, 0, 0);
    x.buy(0, 0, 0);
    x.buy(1, 1, 0);
    same("15 kept, wherever", x.ofWish(0, 4), 3);
    x.join(0);
    x.pledge(2, 1, 200);
    int[] due0 = {2, 100, 0, 0, 2, 1, 0, 0, 0};
    int[] due1 = {1, 300, 1, 0, 0, 0, 200, 100, 0};
    for (int what = 0; what <= 8; what++) {
      same("15 wish 0 " + what, x.ofWish(0, what), due0[what]);
      same("15 wish 1 " + what, x.ofWish(1, what), due1[what]);
    }
    x.pledge(2, 1, 100);
    same("15 ordered", x.ofWish(1, 8), 1);
    x.strike(0);
    same("15 struck", x.ofWish(0, 3), 1);
    for (int bad : new int[] {-1, 9, LOWEST, HIGHEST}) {
      refused(x, "15 what " + bad, ARGUMENT, () -> x.ofWish(0, bad));
      refused(x, "15 wish " + bad, INDEX, () -> x.ofWish(bad, bad));
    }
    refused(x, "15 wish 2", INDEX, () -> x.ofWish(2, 0));
  }

  private static void promise16() {
    Tureenlist x = list(2, 1000);
    x.wish(2, 100);
    x.wish(3, 40);
    x.shared(300);
    x.apart(1);
    x.buy(0, 1, 0);
    x.buy(0, 1, 0);
    x.buy(1, 0, 0);
    x.buy(1, 0, 1);
    x.buy(1, 0, 1);
    x.giveBack(0, 1);
    x.price(1, 41);
    x.buy(1, 0, 1);
    x.join(1);
    x.pledge(0, 2, 5);
    x.pledge(0, 2, 6);
    x.hold(0, 0, 1, 7);
    int[] due = {908, 2, 81, 11, 1, 1};
    for (int what = 0; what <= 5; what++) {
      same("16 guest 0 " + what, x.ofGuest(0, what), due[what]);
    }
    same("16 guest 1 purse", x.ofGuest(1, 0), 800);
    same("16 guest 1 taken", x.ofGuest(1, 4), 0);
    for (int bad : new int[] {-1, 6, LOWEST, HIGHEST}) {
      refused(x, "16 what " + bad, ARGUMENT, () -> x.ofGuest(0, bad));
      refused(x, "16 guest " + bad, INDEX, () -> x.ofGuest(bad, bad));
    }
    refused(x, "16 guest 2", INDEX, () -> x.ofGuest(2, 0));
  }

  private static void promise17() {
    Tureenlist x = list(2, 1000);
    x.wish(5, 1);
    x.shared(9);
    same("17 all", x.left(0, 0), 5);
    x.buy(0, 0, 0);
    x.hold(1, 1, 0, 3);
    same("17 less a gift and a hold", x.left(2, 0), 3);
    same("17 shared", x.left(2, 1), 0);
    x.apart(2);
    for (int n = 0; n < 3; n++) {
      x.buy(2, 0, 0);
      x.buy(0, 1, 0);
    }
    x.hold(0, 0, 0, 5);
    x.hold(2, 1, 0, 5);
    x.join(2);
    same("17 0 at least", x.left(0, 0), 0);
    x.giveBack(0, 0);
    x.giveBack(0, 0);
    same("17 two kept less, but two holds", x.left(0, 0), 0);
    x.giveBack(1, 0);
    same("17 three kept less", x.left(0, 0), 1);
    pass(x, 5);
    same("17 till they run out", x.left(0, 0), 3);
    x.strike(0);
    same("17 struck", x.left(0, 0), 0);
    for (int bad : new int[] {-1, 3, LOWEST, HIGHEST}) {
      refused(x, "17 till " + bad, INDEX, () -> x.left(bad, 0));
      refused(x, "17 wish " + bad, INDEX, () -> x.left(0, bad));
    }
  }

  private static void promise18() {
    Tureenlist x = list(2, 1000);
    x.wish(5, 1);
    x.wish(3, 2);
    x.buy(1, 0, 0);
    x.buy(1, 0, 1);
    x.hold(0, 1, 0, 9);
    x.apart(1);
    x.buy(1, 0, 0);
    x.hold(1, 1, 1, 9);
    x.hold(1, 1, 1, 8);
    int[] due0 = {1, 0, 1, 2, 1, 5};
    int[] due1 = {0, 3, 3, 3, 1, 2};
    for (int what = 0; what <= 5; what++) {
      same("18 till 0 " + what, x.ofTill(0, what), due0[what]);
      same("18 till 1 " + what, x.ofTill(1, what), due1[what]);
      same("18 till 2 " + what, x.ofTill(2, what), due0[what]);
    }
    for (int bad : new int[] {-1, 6, LOWEST, HIGHEST}) {
      refused(x, "18 what " + bad, ARGUMENT, () -> x.ofTill(0, bad));
      refused(x, "18 till " + bad, INDEX, () -> x.ofTill(bad, bad));
    }
    refused(x, "18 till 3", INDEX, () -> x.ofTill(3, 0));
  }

  private static void promise18Fill() {
    Tureenlist x = new Tureenlist();
    x.guest(10);
    x.guest(10);
    x.guest(20);
    x.guest(0);
    x.wish(1, 10);
    x.wish(1, 11);
    x.wish(1, 21);
    same("18 each within its purse", x.ofTill(0, 4), 2);
    x.price(1, 10);
    same("18 just the purse", x.ofTill(0, 4), 2);
    x.wish(1, 10);
    same("18 three pieces, three purses", x.ofTill(0, 4), 3);
    x.shared(50);
    x.pledge(0, 4, 3);
    same("18 who has a pledge takes no part", x.ofTill(0, 4), 2);
    x.price(4, 1);
    same("18 a pledge in part is one", x.ofTill(0, 4), 2);
    x.apart(2);
    x.buy(2, 2, 0);
    same("18 who has a gift, wherever, takes no part", x.ofTill(0, 4), 1);
    x.callOff();
    same("18 called off is not asked", x.ofTill(0, 4), 3);
    Tureenlist y = list(2, 5);
    y.wish(5, 5);
    y.shared(9);
    y.pledge(0, 1, 5);
    y.strike(1);
    same("18 one that went back wholly is none", y.ofTill(0, 4), 2);
    y.buy(0, 0, 0);
    y.giveBack(0, 0);
    same("18 nor is a gift given back", y.ofTill(0, 4), 2);
    Tureenlist poor = list(1, 0);
    poor.guest(50);
    poor.wish(5, 10);
    same("18 an empty purse buys nothing", poor.ofTill(0, 4), 1);
    Tureenlist full = list(1, 999);
    full.wish(2, 1);
    for (int n = 0; n < 40; n++) {
      full.buy(0, 0, 0);
      full.giveBack(0, 0);
    }
    same("18 forty gifts are not asked", full.ofTill(0, 4), 1);
  }

  private static void promise19() {
    Tureenlist x = list(3, 1000);
    x.wish(1, 5);
    x.wish(2, 7);
    pass(x, 12);
    x.buy(2, 1, 1);
    x.price(1, 8);
    int[] due = {1, 1, 2, 12, 7, 0};
    for (int what = 0; what <= 5; what++) {
      same("19 gift " + what, x.ofGift(0, what), due[what]);
    }
    x.giveBack(1, 1);
    same("19 given back", x.ofGift(0, 5), 2);
    same("19 what was paid stays told", x.ofGift(0, 4), 7);
    x.apart(0);
    x.buy(0, 0, 0);
    x.buy(1, 2, 0);
    x.join(0);
    same("19 taken back", x.ofGift(2, 5), 1);
    for (int bad : new int[] {-1, 6, LOWEST, HIGHEST}) {
      refused(x, "19 what " + bad, ARGUMENT, () -> x.ofGift(0, bad));
      refused(x, "19 gift " + bad, INDEX, () -> x.ofGift(bad, bad));
    }
    refused(x, "19 gift 3", INDEX, () -> x.ofGift(3, 0));
  }

  private static void promise20() {
    Tureenlist x = list(2, 1000);
    x.wish(1, 10);
    x.wish(4, 20);
    x.shared(300);
    pass(x, 3);
    x.apart(1);
    x.buy(0, 0, 0);
    x.buy(1, 1, 0);
    x.join(1);
    x.buy(2, 0, 1);
    x.buy(2, 0, 1);
    x.giveBack(0, 1);
    x.pledge(1, 2, 100);
    x.price(2, 90);
    x.hold(0, 1, 1, 5);
    x.hold(0, 1, 1, 4);
    pass(x, 4);
    int[] due = {7, 3, 2, 4, 2, 1, 1, 160, 40, 2, 1, 0};
    for (int what = 0; what <= 11; what++) {
      same("20 shop " + what, x.shop(what), due[what]);
    }
    x.callOff();
    same("20 called off", x.shop(11), 1);
    same("20 all went back", x.shop(8), 160);
    for (int bad : new int[] {-1, 12, LOWEST, HIGHEST}) {
      refused(x, "20 what " + bad, ARGUMENT, () -> x.shop(bad));
    }
  }

  private static void promise21() {
    Tureenlist x = list(4, 1000);
    x.wish(5, 10);
    x.shared(300);
    same("21 none", x.card(0), "none");
    same("21 shared, none", x.card(1), "none");
    x.buy(0, 3, 0);
    x.buy(0, 1, 0);
    x.buy(0, 3, 0);
    x.buy(0, 0, 0);
    same("21 as they were bought", x.card(0), "3130");
    x.giveBack(3, 0);
    same("21 only those that are kept", x.card(0), "310");
    x.pledge(2, 1, 5);
    x.pledge(0, 1, 5);
    x.pledge(2, 1, 6);
    same("21 by rising numbers, each once", x.card(1), "+02");
    x.pledge(3, 1, 1);
    same("21 a penny is a pledge", x.card(1), "+023");
    x.strike(1);
    same("21 all went back", x.card(1), "none");
    for (int bad : new int[] {-1, 2, LOWEST, HIGHEST}) {
      refused(x, "21 wish " + bad, INDEX, () -> x.card(bad));
    }
    x.callOff();
    same("21 called off", x.card(0), "none");
  }

  private static void promise22() {
    Tureenlist x = list(3, 1000);
    x.wish(2, 10);
    x.wish(1, 10);
    same("22 joined", x.wouldTake(1), 0);
    x.apart(1);
    x.apart(2);
    same("22 nothing done", x.wouldTake(1), 0);
    x.buy(0, 0, 0);
    x.buy(0, 0, 1);
    x.buy(1, 1, 0);
    x.buy(1, 1, 0);
    x.buy(1, 1, 1);
    x.buy(2, 2, 0);
    long before = x.digest();
    same("22 of all wishes", x.wouldTake(1), 2);
    same("22 each till by itself", x.wouldTake(2), 0);
    same("22 nothing is changed", x.digest(), before);
    same("22 it is so", x.join(1), 2);
    same("22 then the other", x.wouldTake(2), 1);
    x.callOff();
    same("22 called off", x.wouldTake(2), 0);
    for (int bad : new int[] {-1, 3, LOWEST, HIGHEST}) {
      refused(x, "22 till " + bad, INDEX, () -> x.wouldTake(bad));
    }
  }

  private static void promise23() {
    Tureenlist x = new Tureenlist();
    x.guest(100);
    same("23 no wish", x.hint(0, 0), -1);
    x.wish(1, 10);
    x.wish(1, 30);
    x.wish(1, 30);
    x.wish(1, 101);
    same("23 alone: the cheapest", x.hint(0, 0), 0);
    x.guest(10);
    same("23 leaves the only one for the other", x.hint(0, 0), 1);
    same("23 the other's own", x.hint(1, 0), 0);
    x.guest(30);
    x.guest(30);
    same("23 none by which it is: the dearest", x.hint(0, 0), 1);
    x.price(3, 100);
    same("23 a dearer one spares all", x.hint(0, 0), 3);
    x.buy(0, 1, 0);
    same("23 who has a gift is hinted to, too", x.hint(1, 0), -1);
    same("23 nothing is changed", x.shop(3), 1);
    Tureenlist two = list(1, 100);
    two.guest(10);
    two.wish(2, 10);
    two.wish(1, 30);
    same("23 just that piece is left out", two.hint(0, 0), 0);
    Tureenlist y = list(2, 50);
    y.wish(2, 20);
    y.wish(2, 20);
    same("23 of several the smallest number", y.hint(1, 2), 0);
    y.apart(2);
    y.hold(0, 0, 0, 5);
    y.hold(0, 0, 0, 5);
    same("23 what is left there", y.hint(1, 0), 1);
    same("23 and there", y.hint(1, 2), 0);
    y.callOff();
    same("23 called off is not asked", y.hint(1, 2), 0);
    for (int bad : new int[] {-1, 3, LOWEST, HIGHEST}) {
      refused(y, "23 guest " + bad, INDEX, () -> y.hint(bad, 0));
      refused(y, "23 till " + bad, INDEX, () -> y.hint(0, bad));
    }
    refused(y, "23 guest 2", INDEX, () -> y.hint(2, 0));
  }

  private static void promise24() {
    Tureenlist x = list(3, 100);
    same("24 new", x.isSound(), true);
    x.wish(1, 10);
    x.shared(50);
    x.apart(0);
    x.apart(1);
    x.buy(0, 0, 0);
    x.buy(1, 1, 0);
    x.buy(2, 2, 0);
    same("24 too many while apart", x.isSound(), true);
    x.giveBack(0, 0);
    x.buy(0, 0, 0);
    x.wish(2, 1);
    x.buy(0, 0, 2);
    same("24 tills apart see more and less", x.isSound(), true);
    x.join(0);
    same("24 one apart", x.isSound(), true);
    x.join(1);
    same("24 joined", x.isSound(), true);
    x.guest(0);
    same("24 an empty purse", x.isSound(), true);
    x.pledge(0, 1, 50);
    same("24 ordered", x.isSound(), true);
    x.callOff();
    same("24 called off", x.isSound(), true);
  }

  private static long folded(int... numbers) {
    long d = 4909;
    for (int v : numbers) {
      d = d * 31 + v;
    }
    return d;
  }

  private static void promise25() {
    same("25 new", new Tureenlist().digest(), folded(
        0, 0, 0, 0, 0, 0, 0, 0, 0, 0, 0, 0,
        1, 0, 0, 0, 0, 0, 0, 1, 0, 0, 0, 0, 0, 0, 1, 0, 0, 0, 0, 0, 0, 1));
    Tureenlist x = list(2, 30);
    x.wish(2, 10);
    x.shared(25);
    x.pledge(1, 1, 4);
    x.apart(2);
    x.buy(2, 0, 0);
    pass(x, 6);
    same("25 in this order", x.digest(), folded(
        6, 2, 2, 1, 1, 0, 0, 14, 0, 0, 0, 0,
        2, 10, 0, 0, 1, 0, 0, 0, 0, 1, 25, 1, 0, 0, 0, 4, 21, 0,
        20, 1, 10, 0, 0, 0, 26, 0, 0, 4, 0, 0,
        1, 0, 0, 0, 0, 2, 2, 0, 0, 0, 0,
        1, 0, 0, 0, 0, 2, 2, 0, 0, 0, 0,
        0, 1, 0, 1, 0, 1, 1, 0, 0, 0, 0,
        0, 1));
    x.giveBack(0, 0);
    x.price(0, 5);
    x.apart(0);
    x.buy(0, 0, 0);
    x.buy(1, 0, 0);
    x.buy(1, 0, 0);
    x.buy(2, 0, 0);
    x.join(2);
    x.price(0, 40);
    x.guest(50);
    x.wish(1, 50);
    same("25 with more than zeros", x.digest(), folded(
        6, 3, 3, 5, 3, 1, 1, 34, 15, 0, 0, 0,
        2, 40, 0, 0, 3, 1, 0, 0, 0, 1, 25, 1, 0, 0, 0, 4, 21, 0, 1, 50, 0, 0, 0, 0, 0, 0, 0,
        15, 3, 15, 0, 1, 0, 26, 0, 0, 4, 0, 0, 50, 0, 0, 0, 0, 0,
        0, 1, 0, 1, 1, 2, 1, 0, 1, -1, -1, 0, 1,
        1, 2, 0, 2, 1, 1, 0, 0, 1, -1, -1, 2, 0,
        1, 0, 0, 2, 1, 1, 0, 0, 1, -1, -1, 2, 0,
        2, 0, 0, 0, 1, 1));
  }
}
