/** Promises 9 to 21: slips, things, buyers, the tape and its texts, and what there is. */
final class StallTest {
  private static final int MIN = Integer.MIN_VALUE;
  private static final int MAX = Integer.MAX_VALUE;

  private StallTest() {
  }

  public static void main(String[] args) {
    slips();
    rule();
    price();
    thing();
    buyer();
    likes();
    purse();
    feed();
    wipe();
    stallStatements();
    stallSeveral();
    stallTokens();
    stallNumbers();
    stallEnds();
    stallRoom();
    stallChangesAllOrNothing();
    thingOf();
    buyerOf();
    slipOf();
    Due.end();
  }

  private static void slips() {
    EndsInFive x = Due.stall("out 3;out 4");
    Due.unrefused(x, "9: slips", () -> x.slips(60), 20);
    Due.is("9: how many there are", x.status(0), 60);
    Due.is("9: all are in", x.status(2), 60);
    Due.is("9: the last is in", x.slipOf(60, 0), 1);
    Due.read(x, "out 60");
    Due.is("9: one slip", x.slips(1), 60);
    Due.is("9: it is in", x.status(2), 1);
    Due.is("9: sixty again", x.slips(60), 1);
    Due.is("9: all in", x.status(2), 60);
    for (int bad : new int[] {0, -1, 61, MIN, MAX}) {
      Due.refused(x, "9: slips " + bad, () -> x.slips(bad), -2);
    }
    x.thing(0, 5, 0);
    Due.refused(x, "9: there is a thing", () -> x.slips(60), -5);
    Due.refused(x, "9: bad first", () -> x.slips(61), -2);
  }

  private static void rule() {
    EndsInFive x = new EndsInFive();
    Due.read(x, "out 3");
    Due.unrefused(x, "10: rule", () -> x.rule(2), 5);
    Due.is("10: what it is", x.status(1), 2);
    Due.is("10: 4 wins", x.slipOf(4, 1), 1);
    Due.is("10: 5 doesn't", x.slipOf(5, 1), 0);
    Due.is("10: slips stay out", x.status(2), 19);
    Due.is("10: rule 10", x.rule(10), 2);
    for (int bad : new int[] {1, 0, -5, 11, MIN, MAX}) {
      Due.refused(x, "10: rule " + bad, () -> x.rule(bad), -2);
    }
    x.thing(0, 10, 0);
    Due.refused(x, "10: there is a thing", () -> x.rule(5), -5);
    Due.refused(x, "10: bad first", () -> x.rule(11), -2);
  }

  private static void price() {
    EndsInFive x = Due.stall("thing 0 5 0");
    Due.unrefused(x, "11: price", () -> x.price(0, 99), 10);
    Due.unrefused(x, "11: five", () -> x.price(1, 495), 40);
    Due.is("11: the least price", x.price(0, 1), 99);
    Due.is("11: the least five", x.price(1, 1), 495);
    Due.is("11: price again", x.price(0, 7), 1);
    Due.is("11: five again", x.price(1, 8), 1);
    for (int bad : new int[] {0, -1, 100, MIN, MAX}) {
      Due.refused(x, "11: price " + bad, () -> x.price(0, bad), -2);
    }
    for (int bad : new int[] {0, -1, 496, MIN, MAX}) {
      Due.refused(x, "11: five " + bad, () -> x.price(1, bad), -2);
    }
    for (int bad : new int[] {-1, 2, MIN, MAX}) {
      Due.refused(x, "11: what " + bad, () -> x.price(bad, 5), -2);
    }
  }

  private static void thing() {
    EndsInFive x = new EndsInFive();
    x.slips(60);
    Due.read(x, "out 50");
    for (int t = 0; t < 7; t++) {
      final int number = t;
      Due.unrefused(x, "12: thing " + t, () -> x.thing(Math.min(number, 5), 5 * (number + 1), 9 - number), t);
      Due.is("12: kind", x.thingOf(t, 0), Math.min(t, 5));
      Due.is("12: slip", x.thingOf(t, 1), 5 * (t + 1));
      Due.is("12: a", x.thingOf(t, 2), 9 - t);
      Due.is("12: age", x.thingOf(t, 3), 0);
      Due.is("12: it stands", x.thingOf(t, 4), -1);
    }
    Due.refused(x, "12: it isn't in", () -> x.thing(0, 50, 0), -5);
    Due.refused(x, "12: another thing's", () -> x.thing(0, 5, 0), -5);
    Due.is("12: the last", x.thing(0, 60, 9), 7);
    Due.refused(x, "12: full", () -> x.thing(0, 55, 0), -6);
    Due.refused(x, "12: stuck ahead of full", () -> x.thing(0, 50, 0), -5);
    for (int bad : new int[] {-1, 6, MIN, MAX}) {
      Due.refused(x, "12: kind " + bad, () -> x.thing(bad, 50, 0), -2);
    }
    for (int bad : new int[] {0, -5, 4, 6, 61, 65, MIN, MAX}) {
      Due.refused(x, "12: slip " + bad, () -> x.thing(0, bad, 0), -2);
    }
    for (int bad : new int[] {-1, 10, MIN, MAX}) {
      Due.refused(x, "12: a " + bad, () -> x.thing(0, 50, bad), -2);
    }
    slipStaysAThings();
  }

  /** A slip whose thing was brought by a whisky is in and can be drawn, yet it is that thing's. */
  private static void slipStaysAThings() {
    EndsInFive x = Due.stall("thing 3 5 0;thing 0 10 0;buyer 99");
    Due.book(x, 0, 0, 5);
    Due.is("12: whisky brings the other", x.booked(0, 1, 0), 3);
    Due.is("12: its slip is in", x.slipOf(10, 0), 1);
    Due.refused(x, "12: it is that thing's", () -> x.thing(0, 10, 0), -5);
    Due.refused(x, "12: a slip that is out", () -> x.thing(0, 5, 0), -5);
    x.fete(0);
    Due.refused(x, "12: in again, but the whisky's", () -> x.thing(0, 5, 0), -5);
  }

  private static void buyer() {
    EndsInFive x = new EndsInFive();
    for (int bad : new int[] {-1, 10000, MIN, MAX}) {
      Due.refused(x, "13: purse " + bad, () -> x.buyer(bad), -2);
    }
    int[] purses = {0, 9999, 5, 6};
    for (int b = 0; b < 4; b++) {
      final int number = b;
      Due.unrefused(x, "13: buyer " + b, () -> x.buyer(purses[number]), b);
      Due.is("13: purse", x.buyerOf(b, 0), purses[b]);
    }
    Due.is("13: four", x.status(6), 4);
    Due.refused(x, "13: full", () -> x.buyer(5), -6);
    Due.refused(x, "13: bad first", () -> x.buyer(-1), -2);
  }

  private static void likes() {
    EndsInFive x = Due.stall("thing 0 5 0;thing 0 10 0;buyer 1;buyer 1");
    Due.unrefused(x, "14: likes", () -> x.likes(1, 0, 999), 0);
    Due.is("14: by how much", x.thingOf(0, 11), 999);
    Due.is("14: the other buyer", x.thingOf(0, 10), 0);
    Due.is("14: the other thing", x.thingOf(1, 11), 0);
    Due.is("14: again", x.likes(1, 0, 0), 999);
    Due.is("14: and again", x.likes(1, 0, 3), 0);
    for (int bad : new int[] {-1, 2, MIN, MAX}) {
      Due.refused(x, "14: buyer " + bad, () -> x.likes(bad, 0, 1), -2);
      Due.refused(x, "14: thing " + bad, () -> x.likes(0, bad, 1), -2);
    }
    for (int bad : new int[] {-1, 1000, MIN, MAX}) {
      Due.refused(x, "14: by " + bad, () -> x.likes(0, 0, bad), -2);
    }
  }

  private static void purse() {
    EndsInFive x = Due.stall("buyer 5;buyer 6");
    Due.unrefused(x, "15: purse", () -> x.purse(1, 9999), 6);
    Due.is("15: what it is", x.buyerOf(1, 0), 9999);
    Due.is("15: the other's", x.buyerOf(0, 0), 5);
    Due.is("15: nothing", x.purse(1, 0), 9999);
    for (int bad : new int[] {-1, 2, MIN, MAX}) {
      Due.refused(x, "15: buyer " + bad, () -> x.purse(bad, 1), -2);
    }
    for (int bad : new int[] {-1, 10000, MIN, MAX}) {
      Due.refused(x, "15: by " + bad, () -> x.purse(0, bad), -2);
    }
  }

  private static void feed() {
    EndsInFive x = new EndsInFive();
    for (int bad : new int[] {-1, 256, MIN, MAX}) {
      Due.refused(x, "16: byte " + bad, () -> x.feed(bad), -2);
    }
    Due.unrefused(x, "16: the least", () -> x.feed(0), 1);
    Due.is("16: the greatest", x.feed(255), 2);
    for (int i = 3; i <= 250; i++) {
      Due.is("16: byte " + i, x.feed(32), i);
    }
    Due.is("16: its size", x.status(8), 250);
    Due.refused(x, "16: full", () -> x.feed(32), -6);
    Due.refused(x, "16: bad first", () -> x.feed(256), -2);
    Due.is("16: nothing came to it", x.status(8), 250);
  }

  private static void wipe() {
    EndsInFive x = new EndsInFive();
    Due.feed(x, "buyer 5");
    Due.unrefused(x, "17: wipe", x::wipe, 7);
    Due.is("17: it is empty", x.status(8), 0);
    Due.is("17: again", x.wipe(), 0);
    Due.is("17: nothing is left of it", Due.read(x, "rule 2"), 1);
    Due.is("17: no buyer came", x.status(6), 0);
    Due.feed(x, "buyer 12345");
    x.wipe();
    Due.is("17: a shorter text", Due.read(x, "buyer 1"), 1);
    Due.is("17: nothing behind it", x.buyerOf(0, 0), 1);
  }

  private static void fault(String text, int place) {
    EndsInFive x = Due.stall("slips 30;rule 3;price 20 five 30;out 1");
    int tape = x.status(8);
    Due.feed(x, text);
    String wanted = Due.sight(x).replaceFirst("8=" + text.length() + " ", "8=0 ");
    int bads = x.status(12);
    Due.is("18: '" + text + "'", x.stall(), -20 - place);
    Due.is("18: '" + text + "' changed nothing", Due.sight(x), wanted);
    Due.is("18: it is refused", x.status(12), bads + 1);
    Due.is("18: the tape is empty", x.status(8), tape);
  }

  private static void stallStatements() {
    EndsInFive x = Due.stall("out 9");
    Due.feed(x, "slips 60");
    Due.unrefused(x, "18: slips", x::stall, 1);
    Due.is("18: slips", x.status(0), 60);
    Due.is("18: all in", x.status(2), 60);
    Due.is("18: the tape is empty", x.status(8), 0);
    Due.is("18: out", Due.read(x, "out 60"), 1);
    Due.is("18: it is out", x.slipOf(60, 0), 0);
    Due.is("18: no go was had", x.status(3), 0);
    Due.is("18: rule", Due.read(x, "rule 10"), 1);
    Due.is("18: rule", x.status(1), 10);
    Due.is("18: rule leaves the slips", x.status(2), 59);
    Due.is("18: price", Due.read(x, "price 99"), 1);
    Due.is("18: five stays", x.price(1, 9), 40);
    Due.is("18: price", x.price(0, 9), 99);
    Due.is("18: price and five", Due.read(x, "price 1 five 495"), 1);
    Due.is("18: price", x.price(0, 9), 1);
    Due.is("18: five", x.price(1, 9), 495);
    Due.is("18: thing", Due.read(x, "thing 5 50 9"), 1);
    Due.is("18: kind", x.thingOf(0, 0), 5);
    Due.is("18: slip", x.thingOf(0, 1), 50);
    Due.is("18: a", x.thingOf(0, 2), 9);
    Due.is("18: buyer", Due.read(x, "buyer 9999"), 1);
    Due.is("18: purse", x.buyerOf(0, 0), 9999);
    Due.is("18: likes", Due.read(x, "likes 0 0 999"), 1);
    Due.is("18: likes", x.thingOf(0, 10), 999);
    Due.is("18: likes no more", Due.read(x, "likes 0 0 0"), 1);
    Due.is("18: by 0", x.thingOf(0, 10), 0);
    Due.is("18: out once more", Due.read(x, "out 10"), 1);
  }

  private static void stallSeveral() {
    EndsInFive x = new EndsInFive();
    Due.is("18: several", Due.read(x, "slips 12;rule 3;slips 15;price 5;price 6 five 7;thing 1 3 0;"
        + "thing 2 6 1;buyer 10;buyer 20;likes 1 1 5;likes 1 1 6;out 15;out 1"), 13);
    Due.is("18: slips", x.status(0), 15);
    Due.is("18: in", x.status(2), 13);
    Due.is("18: things", x.status(4), 2);
    Due.is("18: buyers", x.status(6), 2);
    Due.is("18: likes", x.thingOf(1, 11), 6);
    Due.is("18: price", x.price(0, 1), 6);
    Due.is("18: more comes to it", Due.read(x, "thing 0 9 0;buyer 30;likes 2 2 8"), 3);
    Due.is("18: things", x.status(4), 3);
    Due.is("18: the third likes the third", x.thingOf(2, 12), 8);
    Due.is("18: slips bring all in", Due.read(new EndsInFive(), "out 3;slips 20;out 3"), 3);
    EndsInFive y = new EndsInFive();
    Due.is("18: rule brings none in", Due.read(y, "out 3;rule 5"), 2);
    Due.is("18: 19 are in", y.status(2), 19);
    EndsInFive z = Due.stall("thing 3 5 0;thing 0 10 0;buyer 99");
    Due.book(z, 0, 0, 5);
    z.booked(0, 1, 0);
    Due.is("18: out, its thing is won", Due.read(z, "out 10"), 1);
    Due.is("18: the whisky's is out", Due.read(z, "out 5"), -24);
  }

  private static void stallTokens() {
    Due.is("18: blanks", Due.read(new EndsInFive(), "  price  8  five  9  ;  buyer  0  "), 2);
    Due.is("18: no blanks", Due.read(new EndsInFive(), "price8five9;buyer0;thing0 5 0"), 3);
    Due.is("18: zeros ahead", Due.read(new EndsInFive(), "buyer 0007;price 0008"), 2);
    fault("slip 5", 0);
    fault("slipss 5", 0);
    fault("Slips 5", 0);
    fault("blips 5", 0);
    fault("rulez 5", 0);
    fault("rulea 5", 0);
    fault("five 5", 0);
    fault("5", 0);
    fault(";", 0);
    fault("price 5;;price 5", 8);
    fault("price 5 5", 8);
    fault("price 5 buyer 5", 8);
    fault("price 5 fives 5", 8);
    fault("price 5 five 5 five 5", 15);
    fault("price 5 five five", 13);
    fault("price five 5", 6);
    fault("price ; 5", 6);
    fault("buyer 5 6", 8);
    fault("buyer 5,buyer 6", 7);
    fault("buyer 5;\tbuyer 6", 8);
    fault("buyer -5", 6);
    fault("buyer five", 6);
    fault("?", 0);
    fault("  \u0000", 2);
    fault(" \u00ff", 1);
    fault("buyer 5 `", 8);
    fault("buyer 5 {", 8);
    fault("buyer 5 /", 8);
    fault("buyer 5 :", 8);
    fault("buyer 5 ! buyer 99999", 8);
    fault("buyer 5price 6", 7);
    fault("thing 0 3;0", 9);
    fault("thing 0 3 0 0", 12);
    fault("thingy 0 3 0", 0);
  }

  private static void stallNumbers() {
    fault("slips 0", 6);
    fault("slips 61", 6);
    fault("slips 00030", 6);
    fault("rule 1", 5);
    fault("rule 11", 5);
    fault("price 0", 6);
    fault("price 100", 6);
    fault("price 5 five 0", 13);
    fault("price 5 five 496", 13);
    fault("thing 6 3 0", 6);
    fault("thing 0 0 0", 8);
    fault("thing 0 4 0", 8);
    fault("thing 0 33 0", 8);
    fault("thing 0 3 10", 10);
    fault("thing 0 3 0;thing 0 3 0", 20);
    fault("out 3;thing 0 3 0", 14);
    fault("buyer 10000", 6);
    fault("buyer 99999999999999999999", 6);
    fault("buyer 4294967296", 6);
    fault("likes 0 0 0", 6);
    fault("buyer 0;likes 1 0 0", 14);
    fault("buyer 0;likes 0 0 0", 16);
    fault("buyer 0;thing 0 3 0;likes 0 1 0", 28);
    fault("buyer 0;thing 0 3 0;likes 0 0 1000", 30);
    fault("out 0", 4);
    fault("out 31", 4);
    fault("out 1", 4);
    fault("out 2;out 2", 10);
    fault("thing 0 3 0;out 3", 16);
    fault("slips 20;out 21", 13);
  }

  private static void stallEnds() {
    fault("", 0);
    fault("   ", 3);
    fault("buyer", 5);
    fault("buyer ", 6);
    fault("buyer 5;", 8);
    fault("buyer 5; ", 9);
    fault("price 5 five", 12);
    fault("price 5 five  ", 14);
    fault("thing 0 3", 9);
    fault("thing 0", 7);
    fault("thing", 5);
    fault("likes", 5);
    fault("buyer 0;thing 0 3 0;likes 0", 27);
    fault("buyer 0;thing 0 3 0;likes 0 0", 29);
    fault("out", 3);
    fault("slips", 5);
    fault("rule", 4);
    fault("price", 5);
  }

  private static void stallRoom() {
    fault("thing 0 3 0;slips 9", 12);
    fault("thing 0 3 0;slips", 12);
    fault("thing 0 3 0;rule 4", 12);
    fault("thing 0 3 0;rule 99999", 12);
    fault("buyer 1;buyer 1;buyer 1;buyer 1;buyer 1", 32);
    fault("buyer 1;buyer 1;buyer 1;buyer 1; buyer x", 33);
    fault("thing 0 3 0;thing 0 6 0;thing 0 9 0;thing 0 12 0;thing 0 15 0;thing 0 18 0;thing 0 21 0;"
        + "thing 0 24 0;thing 0 27 0", 101);
    fault("thing 0 3 0;thing 0 6 0;thing 0 9 0;thing 0 12 0;thing 0 15 0;thing 0 18 0;thing 0 21 0;"
        + "thing 0 24 0;thing 9", 101);
    EndsInFive x = Due.stall("buyer 1;buyer 2;buyer 3;thing 0 5 0");
    Due.is("18: one more buyer", Due.read(x, "buyer 4"), 1);
    Due.is("18: no room", Due.read(x, "buyer 5"), -20);
    Due.is("18: slips can't be", Due.read(x, " slips 5"), -21);
    Due.is("18: rule can't be", Due.read(x, " rule 5"), -21);
  }

  private static void stallChangesAllOrNothing() {
    fault("slips 9;rule 2;price 1 five 2;thing 3 4 5;thing 2 6 7;buyer 8;likes 0 0 9;out 1;out 1", 84);
    EndsInFive x = Due.stall("slips 9;rule 2;price 1 five 2;thing 3 4 5;thing 2 6 7;buyer 8;likes 0 0 9;out 1");
    x.image();
    Due.read(x, "out 3;out 3");
    Due.is("18: nothing is out", x.status(2), 8);
    Due.read(x, "out 3");
    Due.is("18: now it is", x.status(2), 7);
    x.back();
    Due.is("18: a text is no image", x.status(2), 8);
    StringBuilder long_ = new StringBuilder("buyer 7");
    for (int i = long_.length(); i < 250; i++) {
      long_.append(' ');
    }
    EndsInFive y = new EndsInFive();
    Due.is("18: as long as can be", Due.read(y, long_.toString()), 1);
    long_.setCharAt(249, ';');
    Due.is("18: as long as can be, and too early", Due.read(y, long_.toString()), -270);
  }

  private static void thingOf() {
    EndsInFive x = Due.stall("thing 2 5 3;thing 4 10 4;buyer 99;buyer 99;likes 0 1 8;likes 1 1 9");
    int[] due = {4, 10, 4, 0, -1};
    for (int what = 0; what < 5; what++) {
      final int told = what;
      Due.told(x, "19: thingOf(1, " + what + ")", () -> x.thingOf(1, told), due[what]);
    }
    Due.told(x, "19: the first likes it", () -> x.thingOf(1, 10), 8);
    Due.told(x, "19: the second likes it", () -> x.thingOf(1, 11), 9);
    Due.book(x, 0, 0, 5);
    x.booked(0, 1, 1);
    Due.told(x, "19: age of a tin that was won", () -> x.thingOf(0, 3), 1);
    Due.told(x, "19: who has it", () -> x.thingOf(0, 4), 1);
    for (int bad : new int[] {-1, 2, MIN, MAX}) {
      Due.refused(x, "19: thing " + bad, () -> x.thingOf(bad, 0), -2);
    }
    for (int bad : new int[] {-1, 5, 9, 12, MIN, MAX, MIN + 10}) {
      Due.refused(x, "19: what " + bad, () -> x.thingOf(0, bad), -2);
    }
  }

  private static void buyerOf() {
    EndsInFive x = Due.stall("thing 0 5 0;thing 1 10 0;thing 2 15 0;thing 0 20 0;buyer 99;buyer 98;"
        + "likes 1 0 1;likes 1 1 20;likes 1 2 300;likes 1 3 7;likes 0 2 4");
    Due.told(x, "20: purse", () -> x.buyerOf(1, 0), 98);
    Due.told(x, "20: has nothing", () -> x.buyerOf(1, 1), 0);
    Due.told(x, "20: likes nothing of it", () -> x.buyerOf(1, 2), 0);
    Due.told(x, "20: of what stands", () -> x.buyerOf(1, 3), 328);
    Due.book(x, 0, 0, 15, 5, 10);
    x.booked(0, 2, 1);
    Due.book(x, 0, 0, 10);
    x.booked(0, 1, 0);
    Due.told(x, "20: purse, less two goes", () -> x.buyerOf(1, 0), 78);
    Due.told(x, "20: has", () -> x.buyerOf(1, 1), 5);
    Due.told(x, "20: likes", () -> x.buyerOf(1, 2), 301);
    Due.told(x, "20: of what stands then", () -> x.buyerOf(1, 3), 7);
    Due.told(x, "20: the other has", () -> x.buyerOf(0, 1), 2);
    for (int bad : new int[] {-1, 2, MIN, MAX}) {
      Due.refused(x, "20: buyer " + bad, () -> x.buyerOf(bad, 0), -2);
    }
    for (int bad : new int[] {-1, 4, MIN, MAX}) {
      Due.refused(x, "20: what " + bad, () -> x.buyerOf(0, bad), -2);
    }
  }

  private static void slipOf() {
    EndsInFive x = Due.stall("thing 4 5 1;thing 0 20 0;buyer 99;out 7");
    int[][] due = {{5, 1, 1, 0, 0}, {20, 1, 1, 1, 1}, {10, 1, 1, 1, -1}, {1, 1, 0, 1, -1}, {7, 0, 0, 0, -1}};
    for (int[] d : due) {
      for (int what = 0; what < 4; what++) {
        final int told = what;
        Due.told(x, "21: slipOf(" + d[0] + ", " + what + ")", () -> x.slipOf(d[0], told), d[1 + what]);
      }
    }
    Due.book(x, 0, 0, 20);
    x.booked(0, 1, 0);
    Due.told(x, "21: it is out", () -> x.slipOf(20, 0), 0);
    Due.told(x, "21: it wins still", () -> x.slipOf(20, 1), 1);
    Due.told(x, "21: it can't be drawn", () -> x.slipOf(20, 2), 0);
    Due.told(x, "21: the thing on it", () -> x.slipOf(20, 3), 1);
    for (int bad : new int[] {0, -1, 21, 64, MIN, MAX}) {
      Due.refused(x, "21: slip " + bad, () -> x.slipOf(bad, 0), -2);
    }
    for (int bad : new int[] {-1, 4, MIN, MAX}) {
      Due.refused(x, "21: what " + bad, () -> x.slipOf(1, bad), -2);
    }
  }
}
