/** Promises 46 to 53: goes in truth, fetes, the seed, the image, and what status tells. */
final class TruthTest {
  private static final int MIN = Integer.MIN_VALUE;
  private static final int MAX = Integer.MAX_VALUE;

  private TruthTest() {
  }

  public static void main(String[] args) {
    go();
    goPastWhatIsHeld();
    five();
    fewerThanFive();
    plays();
    fete();
    seed();
    image();
    back();
    backAndShelves();
    status();
    Due.end();
  }

  /** The draws as the document has them, apart from the class. */
  private static int next(int seed) {
    return seed * 1103515245 + 12345;
  }

  private static void go() {
    EndsInFive x = Due.stall("thing 2 5 0;buyer 25;buyer 9;buyer 999");
    // 1 becomes 1103527590, whose upper half is 16838: modulo 20 that is 18.
    Due.unrefused(x, "46: go", () -> x.go(0), 19);
    Due.is("46: seed", x.status(9), 1103527590);
    Due.is("46: it is out", x.slipOf(19, 0), 0);
    Due.is("46: goes", x.status(3), 1);
    Due.is("46: purse", x.buyerOf(0, 0), 15);
    Due.is("46: taken", x.status(7), 10);
    Due.refused(x, "46: the purse is less than the price", () -> x.go(1), -5);
    int seed = next(1103527590);
    int ahead = (seed >>> 16) % 19;
    Due.is("46: the second", x.go(0), ahead + 1 < 19 ? ahead + 1 : ahead + 2);
    Due.refused(x, "46: five are left", () -> x.go(0), -5);
    for (int bad : new int[] {-1, 3, MIN, MAX}) {
      Due.refused(x, "46: buyer " + bad, () -> x.go(bad), -2);
    }
    for (int k = 0; k < 18; k++) {
      x.go(2);
    }
    Due.is("46: the thing is theirs", x.thingOf(0, 4), 2);
    Due.is("46: the tin's age", x.thingOf(0, 3), 1);
    Due.is("46: all were paid", x.status(7), 200);
    Due.refused(x, "46: none can be drawn", () -> x.go(2), -5);
    Due.is("46: the price to the last", Due.stall("buyer 10").go(0), 19);
  }

  private static void goPastWhatIsHeld() {
    // Slips 2 and 4 can't be drawn: the draws count 1, 3, 5 alone.
    for (int start = -3; start < 40; start++) {
      EndsInFive x = Due.stall("slips 5;rule 2;thing 4 2 9;thing 4 4 9;buyer 99");
      x.seed(start * 77777777);
      int draw = (next(start * 77777777) >>> 16) % 3;
      Due.is("46: go with seed " + start, x.go(0), 2 * draw + 1);
    }
  }

  private static void five() {
    EndsInFive x = Due.stall("slips 10;rule 2;price 99 five 7;thing 0 2 0;thing 0 4 0;thing 3 6 0;thing 0 8 0;thing 2 10 0;"
        + "buyer 7;buyer 6");
    Due.refused(x, "47: the purse is less than five", () -> x.five(1), -5);
    EndsInFive y = Due.stall("slips 10;rule 2;price 1 five 7;thing 0 2 0;thing 0 4 0;thing 3 6 0;thing 0 8 0;thing 2 10 0;"
        + "buyer 7;buyer 6");
    for (int k = 0; k < 5; k++) {
      y.go(0);
    }
    int before = x.status(12) + x.status(15);
    Due.is("47: five are five goes", x.five(0), y.buyerOf(0, 1));
    Due.is("47: none is refused", x.status(12) + x.status(15), before);
    Due.is("47: theirs", x.buyerOf(0, 1), y.buyerOf(0, 1));
    Due.is("47: purse", x.buyerOf(0, 0), 0);
    Due.is("47: taken", x.status(7), 7);
    Due.is("47: goes", x.status(3), 5);
    Due.is("47: in", x.status(2), 5);
    Due.is("47: seed", x.status(9), y.status(9));
    for (int bad : new int[] {-1, 2, MIN, MAX}) {
      Due.refused(x, "47: buyer " + bad, () -> x.five(bad), -2);
    }
    x.purse(1, 99);
    int had = x.buyerOf(0, 1);
    Due.is("47: the rest", x.five(1), 31 & ~had);
    Due.refused(x, "47: none can be drawn", () -> x.five(1), -5);
  }

  private static void fewerThanFive() {
    EndsInFive x = Due.stall("slips 4;rule 2;thing 4 2 9;thing 4 4 9;buyer 99");
    Due.is("47: two blanks, then none can be drawn", x.five(0), 0);
    Due.is("47: two goes", x.status(3), 2);
    Due.is("47: paid all the same", x.buyerOf(0, 0), 59);
    Due.is("47: two draws", x.status(9), next(next(1)));
    Due.refused(x, "47: held", () -> x.five(0), -5);
    Due.refused(x, "46: held", () -> x.go(0), -5);
    EndsInFive y = Due.stall("slips 4;rule 2;thing 4 2 1;thing 0 4 0;buyer 40");
    Due.is("47: the held one comes free", y.five(0), 3);
    Due.is("47: four goes", y.status(3), 4);
  }

  private static void plays() {
    EndsInFive x = Due.stall("slips 10;rule 10;thing 0 10 0;buyer 999;buyer 25;likes 0 0 999;likes 1 0 999");
    EndsInFive y = Due.stall("slips 10;rule 10;thing 0 10 0;buyer 999;buyer 25;likes 0 0 999;likes 1 0 999");
    int goes = 0;
    while (y.plan(0) > 0 && y.buyerOf(0, 0) >= 10) {
      y.go(0);
      goes++;
    }
    final int due = goes;
    Due.unrefused(x, "48: plays", () -> x.plays(0), due);
    Due.is("48: all is as by goes", Due.sight(x), Due.sight(y));
    Due.is("48: no more", x.plays(0), 0);
    x.fete(1000);
    Due.is("48: as long as the purse is good", x.plays(1) <= 2 ? 1 : 0, 1);
    Due.is("48: nothing to win", Due.stall("buyer 999").plays(0), 0);
    Due.is("48: no purse", Due.stall("slips 2;rule 2;thing 0 2 0;buyer 9;likes 0 0 99;out 1").plays(0), 0);
    Due.is("48: the purse is just the price", Due.stall("slips 2;rule 2;thing 0 2 0;buyer 10;likes 0 0 99;out 1").plays(0), 1);
    for (int bad : new int[] {-1, 2, MIN, MAX}) {
      Due.refused(x, "48: buyer " + bad, () -> x.plays(bad), -2);
    }
    for (int start = 0; start < 30; start++) {
      playsAsByGoes(start);
    }
  }

  private static void playsAsByGoes(int start) {
    String text = "slips 30;rule 3;price 9;thing 0 3 0;thing 3 6 0;thing 4 9 3;thing 5 12 2;thing 2 15 0;thing 3 18 0;"
        + "buyer 170;likes 0 0 80;likes 0 1 30;likes 0 2 90;likes 0 3 110;likes 0 4 40";
    EndsInFive x = Due.stall(text);
    EndsInFive y = Due.stall(text);
    x.seed(start * 7654321);
    y.seed(start * 7654321);
    int goes = 0;
    while (y.plan(0) > 0 && y.buyerOf(0, 0) >= 9) {
      y.go(0);
      goes++;
    }
    Due.is("48: plays with seed " + start, x.plays(0), goes);
    Due.is("48: all is as by goes, seed " + start, Due.sight(x), Due.sight(y));
  }

  private static void fete() {
    EndsInFive x = Due.stall("slips 12;rule 2;thing 0 2 0;thing 2 4 0;thing 3 6 0;thing 0 8 0;buyer 999;buyer 999;"
        + "likes 0 0 5;likes 0 1 6;likes 1 2 7;likes 1 0 9;out 1");
    Due.book(x, 0, 0, 2, 4, 6);
    x.booked(0, 2, 0);
    x.copy(0, 0, 2, 0, 1);
    x.booked(0, 1, 1);
    Due.is("49: the first has", x.buyerOf(0, 1), 3);
    Due.is("49: the other has, the last was brought", x.buyerOf(1, 1), 12);
    Due.unrefused(x, "49: nothing comes back", () -> x.fete(0), 0);
    Due.is("49: all are in", x.status(2), 12);
    Due.is("49: goes", x.status(3), 0);
    Due.is("49: nothing stands", x.status(5), 0);
    Due.is("49: purses stay", x.buyerOf(0, 0), 979);
    Due.is("49: taken stays", x.status(7), 30);
    Due.is("49: what they like less than 6", x.fete(6), 2);
    Due.is("49: it stands", x.status(5), 9);
    Due.is("49: its age", x.thingOf(0, 3), 1);
    Due.is("49: the tin's age", x.thingOf(1, 3), 1);
    Due.is("49: what one likes by just that is kept", x.thingOf(1, 4), 0);
    Due.is("49: all", x.fete(1000), 2);
    Due.is("49: the tin's age", x.thingOf(1, 3), 2);
    Due.is("49: what stood is no older", x.thingOf(0, 3), 1);
    Due.is("49: all stand", x.status(5), 15);
    for (int bad : new int[] {-1, 1001, MIN, MAX}) {
      Due.refused(x, "49: less " + bad, () -> x.fete(bad), -2);
    }
  }

  private static void seed() {
    EndsInFive x = Due.stall("buyer 999");
    Due.unrefused(x, "50: seed", () -> x.seed(MIN), 1);
    Due.is("50: seed", x.status(9), MIN);
    Due.is("50: the one ahead", x.seed(MAX), MIN);
    Due.is("50: the one ahead of that", x.seed(-1), MAX);
    int slip = (next(-1) >>> 16) % 20 + 1;
    Due.is("50: a go by it", x.go(0), slip);
    Due.is("50: the one behind it", x.seed(0), next(-1));
  }

  private static void image() {
    EndsInFive x = Due.stall("slips 10;thing 2 5 1;buyer 99;likes 0 0 5;price 8 five 9;out 2");
    x.seed(77);
    Due.told(x, "51: image", x::image, 1);
    String kept = Due.sight(x);
    x.go(0);
    x.five(0);
    Due.read(x, "thing 0 10 0;buyer 5;likes 1 1 7;price 3 five 4");
    x.likes(0, 0, 99);
    x.purse(0, 1);
    Due.unrefused(x, "51: back", x::back, 1);
    Due.is("51: all is again as it was", Due.sight(x), kept);
    x.fete(1000);
    x.thing(1, 10, 0);
    Due.is("51: image anew", x.image(), 1);
    String later = Due.sight(x);
    x.go(0);
    x.back();
    Due.is("51: the later one", Due.sight(x), later);
  }

  private static void back() {
    EndsInFive x = Due.stall("buyer 99");
    Due.refused(x, "52: nothing was kept", x::back, -5);
    x.image();
    x.go(0);
    x.buyer(-1);
    Due.feed(x, "price 5");
    x.row(0, 0, 3);
    x.set(0, 1, 9);
    Due.unrefused(x, "52: back", x::back, 1);
    Due.is("52: refusals stay", x.status(12), 1);
    Due.is("52: and the others", x.status(15), 1);
    Due.is("52: the tape stays", x.status(8), 7);
    Due.is("52: the row stays", x.element(0, 1), 9);
    Due.is("52: taken is as it was", x.status(7), 0);
    Due.is("52: all are in", x.status(2), 20);
    Due.is("52: the seed", x.status(9), 1);
    Due.is("52: the tape is read still", x.stall(), 1);
    x.slips(60);
    x.rule(2);
    Due.is("52: back again", x.back(), 1);
    Due.is("52: slips", x.status(0), 20);
    Due.is("52: rule", x.status(1), 5);
    Due.is("52: price", x.price(0, 9), 10);
  }

  private static void backAndShelves() {
    EndsInFive x = Due.stall("thing 0 5 0");
    x.image();
    Due.read(x, "thing 2 10 0;thing 3 15 0;buyer 9;likes 0 0 4");
    x.show(7, 0);
    x.show(0, 1);
    x.show(2, 2);
    x.row(3, 4, 40);
    x.back();
    Due.is("52: the thing that there is", x.holds(7), 10);
    Due.is("52: the one there isn't", x.holds(0), -1);
    Due.is("52: nor that", x.holds(2), -1);
    Due.is("52: a row", x.holds(3), 4);
    Due.is("52: shelves that hold something", x.status(10), 2);
    Due.is("52: no one likes it", x.says(7, 0), 0);
    x.buyer(5);
    Due.is("52: a new buyer likes nothing", x.thingOf(0, 10), 0);
    Due.is("52: a new thing in the old one's stead", x.thing(4, 20, 3), 1);
    x.show(1, 1);
    Due.is("52: says", x.says(1, 4), 6);
  }

  private static void status() {
    EndsInFive x = Due.stall("slips 30;rule 3;price 5;thing 0 3 0;thing 4 6 9;thing 5 9 0;buyer 99;buyer 50;out 1");
    x.feed(32);
    Due.book(x, 0, 0, 3, 2);
    x.show(7, 1);
    x.booked(0, 2, 0);
    x.seed(-5);
    x.slips(0);
    x.says(0, 0);
    x.says(0, 0);
    x.says(1, 0);
    x.rule(2);
    x.rule(3);
    x.rule(4);
    x.buyer(1);
    x.buyer(1);
    x.buyer(1);
    x.buyer(1);
    int[] due = {30, 3, 27, 2, 3, 6, 4, 10, 1, -5, 2, 25, 1, 2, 1, 3, 2};
    for (int what = 0; what < due.length; what++) {
      final int told = what;
      Due.told(x, "53: status(" + what + ")", () -> x.status(told), due[what]);
    }
    for (int what : new int[] {-1, 17, 100, MIN, MAX}) {
      Due.told(x, "53: status(" + what + ")", () -> x.status(what), -1);
    }
    EndsInFive y = new EndsInFive();
    y.stall();
    y.atOnce(0);
    y.all(0);
    Due.is("53: faults and far numbers are refused, too", y.status(12), 3);
  }
}
