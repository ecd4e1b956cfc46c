/** Promises 22 to 45: goes, what comes of them in thought, told books, and whose things can be. */
final class ThoughtTest {
  private static final int MIN = Integer.MIN_VALUE;
  private static final int MAX = Integer.MAX_VALUE;

  private ThoughtTest() {
  }

  public static void main(String[] args) {
    drawable();
    wins();
    worth();
    plan();
    till();
    atOnce();
    mean();
    all();
    takings();
    bestPrice();
    full();
    guess();
    suspect();
    sure();
    left();
    judge();
    judgeOtherRows();
    won();
    booked();
    bookRefusals();
    chain();
    dearest();
    fondest();
    envy();
    poorest();
    oldest();
    Due.end();
  }

  private static void goInTruth(EndsInFive x, int slip) {
    Due.book(x, 7, 0, slip);
    if (x.booked(7, 1, 0) < 0) {
      Due.is("the test's own go of slip " + slip, -1, 0);
    }
    x.show(7, -1);
  }

  private static void drawable() {
    EndsInFive x = Due.stall("slips 6;rule 2;thing 4 2 1;thing 5 4 0;thing 5 6 2;buyer 999");
    Due.told(x, "22: blanks alone", x::drawable, 3);
    goInTruth(x, 1);
    Due.told(x, "22: one less", x::drawable, 2);
    goInTruth(x, 3);
    Due.told(x, "22: the held one behind two goes", x::drawable, 2);
    goInTruth(x, 5);
    Due.told(x, "22: half of them are in: the sunk one without a wait", x::drawable, 2);
    goInTruth(x, 2);
    Due.told(x, "22: the sunk one that waits for four", x::drawable, 2);
    goInTruth(x, 4);
    goInTruth(x, 6);
    Due.told(x, "22: none is in", x::drawable, 0);
    EndsInFive y = Due.stall("slips 5;rule 2;thing 5 4 0;buyer 999");
    goInTruth(y, 1);
    goInTruth(y, 2);
    Due.told(y, "22: three of five are more than half", y::drawable, 2);
    goInTruth(y, 3);
    Due.told(y, "22: two of five are not", y::drawable, 2);
    EndsInFive z = Due.stall("slips 4;rule 2;thing 4 2 9;thing 4 4 9;out 1;out 3");
    Due.told(z, "22: all are held", z::drawable, 0);
  }

  private static void wins() {
    EndsInFive x = Due.stall("slips 30;thing 1 5 0;thing 3 10 0;thing 3 15 0;thing 5 20 9;thing 2 25 0;buyer 999;out 1");
    Due.told(x, "23: a blank", () -> x.wins(2), 0);
    Due.told(x, "23: wins, but no thing is on it", () -> x.wins(30), 0);
    Due.told(x, "23: a bottle", () -> x.wins(5), 1);
    Due.told(x, "23: a whisky brings what is held back, no bottle, no whisky", () -> x.wins(10), 2 | 8);
    Due.told(x, "23: so does the other", () -> x.wins(15), 4 | 8);
    Due.refused(x, "23: out", () -> x.wins(1), -5);
    Due.refused(x, "23: held back", () -> x.wins(20), -5);
    for (int bad : new int[] {0, -1, 31, 64, MIN, MAX}) {
      Due.refused(x, "23: slip " + bad, () -> x.wins(bad), -2);
    }
    goInTruth(x, 10);
    Due.told(x, "23: its slip is a blank", () -> x.wins(20), 0);
    Due.told(x, "23: the next", () -> x.wins(15), 4 | 16);
    goInTruth(x, 25);
    Due.told(x, "23: no more to bring", () -> x.wins(15), 4);
  }

  private static void worth() {
    EndsInFive x = Due.stall("thing 0 5 0;thing 4 10 1;thing 3 15 0;buyer 999;buyer 9;likes 0 0 100;likes 0 1 200;"
        + "likes 0 2 7;likes 1 1 999");
    Due.told(x, "24: 100 and 107 by 19 slips", () -> x.worth(0), 207000 / 19);
    Due.told(x, "24: nothing they like", () -> x.worth(1), 0);
    goInTruth(x, 5);
    Due.told(x, "24: 207 by 18", () -> x.worth(0), 207000 / 18);
    Due.told(x, "24: the whisky brings the held one", () -> x.worth(1), 999000 / 18);
    goInTruth(x, 1);
    Due.told(x, "24: 200 and 207 by 18", () -> x.worth(0), 407000 / 18);
    EndsInFive y = Due.stall("slips 2;rule 2;thing 4 2 9;buyer 9;likes 0 0 9;out 1");
    Due.told(y, "24: none can be drawn", () -> y.worth(0), 0);
    EndsInFive z = Due.stall("slips 2;rule 2;thing 0 2 0;buyer 9;likes 0 0 9;out 1");
    Due.told(z, "24: one alone", () -> z.worth(0), 9000);
    for (int bad : new int[] {-1, 2, MIN, MAX}) {
      Due.refused(x, "24: buyer " + bad, () -> x.worth(bad), -2);
    }
  }

  private static void plan() {
    EndsInFive x = Due.stall("slips 2;rule 2;thing 0 2 0;buyer 0;likes 0 0 999");
    Due.told(x, "25: one of two", () -> x.plan(0), 999000 - 15000);
    x.likes(0, 0, 10);
    Due.told(x, "25: not worth it", () -> x.plan(0), 0);
    x.likes(0, 0, 16);
    Due.told(x, "25: just worth it", () -> x.plan(0), 1000);
    x.likes(0, 0, 15);
    Due.told(x, "25: even", () -> x.plan(0), 0);
    EndsInFive y = Due.stall("slips 4;rule 2;price 1;thing 0 2 0;thing 0 4 0;buyer 0;likes 0 0 5;likes 0 1 1;out 1");
    // One of 5 alone: 4000. One of 1 alone: 0. Two things: (5000 + 0 + 1000 + 4000) / 2 - 1000 = 4000.
    // Blank and 5: (5000 + 4000) / 2 - 1000 = 3500. Blank and 1: (1000 + 0) / 2 - 1000 < 0.
    // All three: (5000 + 0 + 1000 + 3500 + 4000) / 3 - 1000 = 3500.
    Due.told(y, "25: two of three", () -> y.plan(0), 3500);
    y.likes(0, 1, 2);
    // 2 alone: 1000; two things: (5000 + 1000 + 2000 + 4000) / 2 - 1000 = 5000; blank and 5: 3500;
    // blank and 2: (2000 + 1000) / 2 - 1000 = 500; all: (5000 + 500 + 2000 + 3500 + 5000) / 3 - 1000 = 4333.
    Due.told(y, "25: cut", () -> y.plan(0), 4333);
    EndsInFive z = Due.stall("slips 2;rule 2;thing 4 2 1;buyer 0;likes 0 0 999");
    Due.told(z, "25: held too long", () -> z.plan(0), 0);
    EndsInFive w = Due.stall("slips 3;rule 2;thing 4 2 1;buyer 0;likes 0 0 999");
    Due.told(w, "25: held back for two goes", () -> w.plan(0), 999000 - 30000);
    EndsInFive s = Due.stall("slips 3;rule 2;thing 5 2 0;buyer 0;likes 0 0 999");
    Due.told(s, "25: sunk, behind two goes of three", () -> s.plan(0), 999000 - 30000);
    for (int bad : new int[] {-1, 1, MIN, MAX}) {
      Due.refused(x, "25: buyer " + bad, () -> x.plan(bad), -2);
    }
    planOfWhisky();
    planOfMany();
  }

  private static void planOfMany() {
    EndsInFive x = Due.stall("slips 60;rule 10;price 1;thing 0 60 0;buyer 0;likes 0 0 999");
    Due.told(x, "25: one of sixty", () -> x.plan(0), 999000 - 30500);
    Due.told(x, "26: never, of sixty", () -> x.till(0), 60);
    Due.told(x, "40: a chain between", () -> x.chain(0), 1);
    Due.told(x, "25: the same behind a chain", () -> x.plan(0), 999000 - 30500);
    Due.told(x, "28: a mean behind a plan", () -> x.mean(0, 1), 16650);
    EndsInFive y = Due.stall("slips 10;rule 2;price 3;buyer 99;thing 2 2 0;thing 5 4 1;thing 3 6 0;"
        + "likes 0 0 9;likes 0 1 7;likes 0 2 1");
    Due.told(y, "25: hardly worth it", () -> y.plan(0), 1);
    Due.is("48: yet it is", y.plays(0) > 0 ? 1 : 0, 1);
  }

  private static void planOfWhisky() {
    EndsInFive x = Due.stall("slips 4;rule 2;price 1;thing 3 2 0;thing 0 4 0;buyer 0;likes 0 1 6;out 1;out 3");
    // Whisky first: 6000, a blank behind it. The thing first: 6000, the whisky alone is worth no price.
    Due.told(x, "25: either brings it", () -> x.plan(0), 5000);
    x.likes(0, 0, 3);
    // Whisky first: 9000 and nothing behind it; the thing first: 6000 and 2000 behind it.
    Due.told(x, "25: both", () -> x.plan(0), 7500);
  }

  private static void till() {
    EndsInFive none = Due.stall("buyer 9");
    Due.told(none, "26: nothing to win", () -> none.till(0), 0);
    EndsInFive x = Due.stall("slips 2;rule 2;thing 0 2 0;buyer 0;likes 0 0 999");
    Due.told(x, "26: never", () -> x.till(0), 60);
    x.likes(0, 0, 15);
    Due.told(x, "26: now", () -> x.till(0), 0);
    String held = "thing 4 4 1;thing 4 6 1;thing 4 8 1;thing 4 10 1;thing 4 12 1;thing 4 14 1;thing 4 16 1;";
    EndsInFive y = Due.stall("slips 16;rule 2;price 1;thing 0 2 0;" + held
        + "buyer 99;likes 0 0 3;out 1;out 3;out 5;out 7;out 9;out 11");
    // Behind two blanks the seven held ones come free: 3 by 8 slips; till then a third, and a half of it.
    Due.told(y, "26: behind the last blank", () -> y.till(0), 2);
    Due.is("26: plan", y.plan(0), 333);
    goInTruth(y, 13);
    Due.told(y, "26: one blank is in", () -> y.till(0), 1);
    goInTruth(y, 15);
    Due.told(y, "26: none is in, and it is 0 now", () -> y.till(0), 0);
    EndsInFive z = Due.stall("slips 16;rule 2;price 1;thing 0 2 0;" + held
        + "buyer 9;likes 0 0 3;out 1;out 3;out 5;out 7;out 9");
    // Three blanks: behind two of them eight slips of nine win nothing; 3 by 3 is just the price.
    Due.told(z, "26: plan is 0 now", () -> z.till(0), 0);
    z.likes(0, 0, 4);
    // Behind two: 4 of nine: its price is 5 on the mean: 0. Behind one: 4 / 3 - 1. Now: 4 / 4 and two thirds of that.
    Due.told(z, "26: behind two of three", () -> z.till(0), 2);
    EndsInFive w = Due.stall("slips 4;rule 2;thing 4 4 9;thing 0 2 0;buyer 0;likes 0 1 999;out 1;out 3");
    Due.told(w, "26: no blank is in", () -> w.till(0), 60);
    EndsInFive v = Due.stall("slips 4;rule 2;thing 4 4 9;buyer 0;likes 0 0 999;out 1;out 3");
    Due.told(v, "26: none can be drawn", () -> v.till(0), 0);
    for (int bad : new int[] {-1, 1, MIN, MAX}) {
      Due.refused(x, "26: buyer " + bad, () -> x.till(bad), -2);
    }
  }

  private static void atOnce() {
    EndsInFive x = Due.stall("slips 3;rule 3;thing 0 3 0;buyer 0;buyer 0;likes 0 0 50");
    Due.told(x, "27: it is won for sure", () -> x.atOnce(0), 10000);
    Due.told(x, "27: nothing they like", () -> x.atOnce(1), -40000);
    x.price(1, 495);
    Due.told(x, "27: dear", () -> x.atOnce(1), -495000);
    EndsInFive y = Due.stall("slips 10;rule 10;price 1 five 1;thing 0 10 0;buyer 0;likes 0 0 100");
    // Cut at each go: 16666 of six, 28570 of seven, 37498 of eight, 44442 of nine, 49997 of ten.
    Due.told(y, "27: five of ten", () -> y.atOnce(0), 49997 - 1000);
    EndsInFive z = Due.stall("slips 8;rule 8;thing 4 8 2;buyer 0;likes 0 0 100;price 9 five 1");
    Due.told(z, "27: the fifth go of five", () -> z.atOnce(0), 25000 - 1000);
    for (int bad : new int[] {-1, 2, MIN, MAX}) {
      Due.refused(x, "27: buyer " + bad, () -> x.atOnce(bad), -10000002L);
    }
  }

  private static void mean() {
    EndsInFive x = Due.stall("slips 3;rule 3;thing 0 3 0;buyer 0;likes 0 0 1");
    int[] due = {0, 333, 666, 1000, 1000, 1000, 1000, 1000, 1000};
    for (int m = 0; m <= 8; m++) {
      final int told = m;
      Due.told(x, "28: mean of " + m, () -> x.mean(0, told), due[m]);
    }
    EndsInFive y = Due.stall("slips 60;rule 10;thing 0 10 0;thing 3 20 0;thing 0 30 0;buyer 0;likes 0 0 60;likes 0 2 60");
    Due.told(y, "28: thing, whisky that brings it, thing", () -> y.mean(0, 1), 180000 / 60);
    // Behind a thing: the whisky brings the other, or that: 120 by 59. Behind the whisky: 60 by 59. Else 180 by 59.
    int behind = (180000 + 120000 / 59 + 60000 / 59 + 120000 / 59 + 57 * (180000 / 59)) / 60;
    Due.told(y, "28: two of them", () -> y.mean(0, 2), behind);
    EndsInFive z = Due.stall("slips 8;rule 8;thing 4 8 3;buyer 0;likes 0 0 100");
    Due.told(z, "28: six goes see nothing of it", () -> z.mean(0, 6), 0);
    Due.told(z, "28: the seventh may", () -> z.mean(0, 7), 50000);
    Due.told(z, "28: the eighth must", () -> z.mean(0, 8), 100000);
    EndsInFive w = Due.stall("slips 8;rule 8;thing 5 8 0;buyer 0;likes 0 0 100");
    Due.told(w, "28: sunk for four goes", () -> w.mean(0, 4), 0);
    Due.told(w, "28: not for five", () -> w.mean(0, 5), 25000);
    EndsInFive v = Due.stall("slips 1;buyer 0");
    v.purse(0, 99);
    v.go(0);
    Due.told(v, "28: none can be drawn", () -> v.mean(0, 8), 0);
    for (int bad : new int[] {-1, 1, MIN, MAX}) {
      Due.refused(x, "28: buyer " + bad, () -> x.mean(bad, 1), -2);
    }
    for (int bad : new int[] {-1, 9, MIN, MAX}) {
      Due.refused(x, "28: m " + bad, () -> x.mean(0, bad), -2);
    }
  }

  private static void all() {
    EndsInFive x = Due.stall("thing 0 5 0;thing 4 10 9;buyer 500;buyer 1;likes 0 0 100;likes 0 1 200;out 1");
    Due.told(x, "29: all", () -> x.all(0), 300 - 190);
    Due.told(x, "29: below 0", () -> x.all(1), -190);
    goInTruth(x, 5);
    Due.told(x, "29: what stands", () -> x.all(0), 200 - 180);
    x.price(0, 99);
    Due.told(x, "29: dear", () -> x.all(0), 200 - 18 * 99);
    for (int bad : new int[] {-1, 2, MIN, MAX}) {
      Due.refused(x, "29: buyer " + bad, () -> x.all(bad), -10000002L);
    }
  }

  private static void takings() {
    EndsInFive x = Due.stall("thing 0 5 0;buyer 12;buyer 47;buyer 9;likes 0 0 100;likes 1 0 200;likes 2 0 99");
    Due.told(x, "30: worth 5, 10, 4.95", () -> x.takings(5), (2 + 9) * 5);
    Due.told(x, "30: all three", () -> x.takings(4), (3 + 11 + 2) * 4);
    Due.told(x, "30: one of them", () -> x.takings(6), 7 * 6);
    Due.told(x, "30: the dearest that one buys", () -> x.takings(10), 40);
    Due.told(x, "30: too dear", () -> x.takings(11), 0);
    Due.told(x, "30: as many as are in", () -> x.takings(1), 20);
    x.purse(0, 9999);
    Due.told(x, "30: the first buys all", () -> x.takings(5), 100);
    Due.told(x, "30: the greatest", () -> x.takings(99), 0);
    EndsInFive y = Due.stall("slips 4;rule 2;thing 4 4 9;thing 0 2 0;buyer 99;likes 0 1 90;out 1");
    Due.told(y, "30: slips that are held back are bought too", () -> y.takings(45), 90);
    y.purse(0, 999);
    Due.told(y, "30: three are in", () -> y.takings(45), 135);
    EndsInFive z = Due.stall("slips 11;rule 2;thing 0 2 0;thing 0 4 0;buyer 999;likes 0 0 999;likes 0 1 45");
    Due.told(z, "30: worth 94909, not 95000", () -> z.takings(95), 0);
    Due.told(z, "31: nor there", z::bestPrice, 90);
    z.likes(0, 1, 46);
    Due.told(z, "30: worth 95000", () -> z.takings(95), 95 * 10);
    for (int bad : new int[] {0, -1, 100, MIN, MAX}) {
      Due.refused(x, "30: price " + bad, () -> x.takings(bad), -2);
    }
  }

  private static void bestPrice() {
    EndsInFive x = new EndsInFive();
    Due.told(x, "31: none", x::bestPrice, 5);
    EndsInFive y = Due.stall("slips 1;buyer 999");
    y.rule(2);
    y.slips(2);
    y.thing(0, 2, 0);
    y.likes(0, 0, 190);
    Due.told(y, "31: worth 95", y::bestPrice, 95);
    y.likes(0, 0, 189);
    Due.told(y, "31: worth 94.5", y::bestPrice, 90);
    EndsInFive z = Due.stall("slips 10;rule 2;thing 0 2 0;buyer 100;likes 0 0 999");
    // At 10 ten slips for 100; at 15 six for 90; at 20 five for 100; at 50 two.
    Due.told(z, "31: of several the least", z::bestPrice, 10);
    z.purse(0, 96);
    Due.told(z, "31: four at 20 bring 80, six at 15 bring 90, one at 95", z::bestPrice, 95);
    z.likes(0, 0, 200);
    Due.told(z, "31: worth 20 alone: nine at 10, six at 15", z::bestPrice, 10);
  }

  private static void full() {
    EndsInFive x = Due.stall("slips 9;rule 3;buyer 99");
    int[] due = {4, 4, 4, 3, 3, 2, 2, 1, 1, 0};
    for (int out = 0; out <= 9; out++) {
      Due.told(x, "32: " + out + " of nine out", x::full, due[out]);
      if (out < 9) {
        goInTruth(x, out + 1);
      }
    }
    EndsInFive y = Due.stall("slips 60");
    Due.told(y, "32: sixty", y::full, 4);
  }

  private static void guess() {
    EndsInFive x = Due.stall("slips 9");
    int[] least = {0, 1, 3, 5, 7};
    int[] most = {0, 2, 4, 6, 9};
    for (int q = 0; q <= 4; q++) {
      final int told = q;
      Due.told(x, "33: least of " + q, () -> x.guess(told, 0), least[q]);
      Due.told(x, "33: most of " + q, () -> x.guess(told, 1), most[q]);
    }
    EndsInFive y = Due.stall("slips 2");
    Due.refused(y, "33: two slips are never one quarter", () -> y.guess(1, 0), -5);
    Due.refused(y, "33: nor three", () -> y.guess(3, 1), -5);
    Due.told(y, "33: but two", () -> y.guess(2, 1), 1);
    for (int bad : new int[] {-1, 5, MIN, MAX}) {
      Due.refused(y, "33: quarters " + bad, () -> y.guess(bad, 0), -2);
    }
    for (int bad : new int[] {-1, 2, MIN, MAX}) {
      Due.refused(y, "33: what " + bad, () -> y.guess(1, bad), -2);
    }
  }

  private static void suspect() {
    EndsInFive x = new EndsInFive();
    Due.told(x, "34: even", () -> x.suspect(60, 0), 500000);
    Due.told(x, "34: sure", () -> x.suspect(60, 60), 1000000);
    Due.told(x, "34: one of one", () -> x.suspect(1, 1), 1000000);
    Due.told(x, "34: one of two, cut", () -> x.suspect(2, 1), 666666);
    Due.told(x, "34: 59 of 60", () -> x.suspect(60, 59), 60000000 / 61);
    for (int bad : new int[] {0, -1, 61, MIN, MAX}) {
      Due.refused(x, "34: m " + bad, () -> x.suspect(bad, 0), -2);
    }
    for (int bad : new int[] {-1, 6, MIN, MAX}) {
      Due.refused(x, "34: k " + bad, () -> x.suspect(5, bad), -2);
    }
  }

  private static void sure() {
    EndsInFive x = new EndsInFive();
    Due.told(x, "35: at once", () -> x.sure(60, 500000), 0);
    Due.told(x, "35: nothing is asked", () -> x.sure(60, 0), 0);
    Due.told(x, "35: one", () -> x.sure(60, 500001), 1);
    Due.told(x, "35: all", () -> x.sure(60, 1000000), 60);
    Due.told(x, "35: of one", () -> x.sure(1, 1000000), 1);
    Due.told(x, "35: just that", () -> x.sure(2, 666666), 1);
    Due.told(x, "35: more than that", () -> x.sure(2, 666667), 2);
    for (int bad : new int[] {0, -1, 61, MIN, MAX}) {
      Due.refused(x, "35: m " + bad, () -> x.sure(bad, 0), -2);
    }
    for (int bad : new int[] {-1, 1000001, MIN, MAX}) {
      Due.refused(x, "35: f " + bad, () -> x.sure(5, bad), -2);
    }
  }

  private static void left() {
    EndsInFive x = Due.stall("slips 7;rule 2;thing 0 2 0;thing 1 4 0;thing 2 6 0;buyer 999;out 1");
    Due.told(x, "36: now", () -> x.left(0), 3000);
    Due.told(x, "36: behind one", () -> x.left(1), 2500);
    Due.told(x, "36: behind all", () -> x.left(6), 0);
    goInTruth(x, 2);
    Due.told(x, "36: two of five, cut", () -> x.left(2), 1200);
    goInTruth(x, 3);
    Due.told(x, "36: two of four", () -> x.left(3), 500);
    goInTruth(x, 5);
    Due.told(x, "36: two of three", () -> x.left(1), 1333);
    for (int bad : new int[] {-1, 4, MIN, MAX}) {
      Due.refused(x, "36: k " + bad, () -> x.left(bad), -2);
    }
    goInTruth(x, 7);
    goInTruth(x, 6);
    goInTruth(x, 4);
    Due.told(x, "36: none is in", () -> x.left(0), 0);
    Due.refused(x, "36: none is in", () -> x.left(1), -2);
    for (int kind = 3; kind <= 5; kind++) {
      EndsInFive y = Due.stall("slips 4;rule 2;thing " + kind + " 2 0;thing 0 4 0;buyer 99");
      Due.refused(y, "36: kind " + kind, () -> y.left(0), -5);
      Due.refused(y, "36: bad first", () -> y.left(5), -2);
      goInTruth(y, 1);
      goInTruth(y, 3);
      goInTruth(y, 2);
      Due.told(y, "36: it stands no more", () -> y.left(0), kind == 3 ? 0 : 1000);
    }
  }

  private static void judge() {
    EndsInFive x = Due.stall("slips 6;rule 2;thing 4 2 1;thing 3 4 0;thing 0 6 0");
    Due.book(x, 0, 0, 1, 4, 2, 6, 3, 5);
    for (int n = 0; n <= 6; n++) {
      final int told = n;
      Due.told(x, "37: right, of " + n, () -> x.judge(0, told), -1);
    }
    Due.book(x, 0, 0, 2, 1, 4);
    Due.told(x, "37: held back at once", () -> x.judge(0, 3), 0);
    Due.book(x, 0, 0, 1, 2, 4);
    Due.told(x, "37: held back behind one", () -> x.judge(0, 3), 1);
    Due.told(x, "37: it is not read so far", () -> x.judge(0, 1), -1);
    Due.book(x, 0, 0, 4, 2);
    Due.told(x, "37: the whisky frees it", () -> x.judge(0, 2), -1);
    Due.book(x, 0, 0, 1, 3, 1);
    Due.told(x, "37: twice", () -> x.judge(0, 3), 2);
    Due.book(x, 0, 0, 0);
    Due.told(x, "37: no slip", () -> x.judge(0, 1), 0);
    Due.book(x, 0, 0, 1, 7);
    Due.told(x, "37: beyond the last", () -> x.judge(0, 2), 1);
    EndsInFive y = Due.stall("slips 4;rule 2;thing 5 4 0;out 1");
    Due.book(y, 0, 0, 4);
    Due.told(y, "37: sunk", () -> y.judge(0, 1), 0);
    Due.book(y, 0, 0, 3, 4);
    Due.told(y, "37: two of four are in", () -> y.judge(0, 2), -1);
    Due.book(y, 0, 0, 1);
    Due.told(y, "37: out", () -> y.judge(0, 1), 0);
  }

  private static void judgeOtherRows() {
    EndsInFive x = Due.stall("buyer 999");
    long[] told = {1, 4294967297L, -1, Long.MIN_VALUE, Long.MAX_VALUE, 257, 65537};
    int[][] due = {{-1, -1, -1, 0, 0, -1, -1}, {-1, -1, -1, 0, 0, 0, -1}, {-1, -1, -1, 0, 0, 0, 0},
      {-1, 0, 0, 0, 0, 0, 0}, {-1, -1, -1, -1, -1, -1, -1}};
    due[0][2] = 0;
    due[1][2] = 0;
    due[2][2] = 0;
    for (int sort = 0; sort <= 4; sort++) {
      for (int i = 0; i < told.length; i++) {
        Due.book(x, 0, sort, told[i]);
        Due.told(x, "37: " + told[i] + " in a row of sort " + sort, () -> x.judge(0, 1), due[sort][i]);
      }
    }
    Due.book(x, 0, 4, 1, 1);
    Due.told(x, "37: twice the first, told by booleans", () -> x.judge(0, 2), 1);
    x.row(1, 3, 40);
    for (int i = 0; i < 20; i++) {
      x.set(1, i, 20 - i);
    }
    Due.told(x, "37: all twenty", () -> x.judge(1, 20), -1);
    Due.told(x, "37: forty", () -> x.judge(1, 40), 20);
    x.slips(60);
    Due.book(x, 0, 0, 60, 59, 1, 60);
    Due.told(x, "37: the sixtieth, twice", () -> x.judge(0, 4), 3);
    x.set(0, 3, 61);
    Due.told(x, "37: there is no more", () -> x.judge(0, 4), 3);
  }

  private static void won() {
    EndsInFive x = Due.stall("slips 8;rule 2;thing 0 2 0;thing 3 4 0;thing 4 6 1;thing 2 8 0");
    Due.book(x, 0, 2, 4, 2, 6, 8);
    int[] due = {0, 3, 3, 7, 15};
    for (int n = 0; n <= 4; n++) {
      final int told = n;
      Due.told(x, "38: won by " + n, () -> x.won(0, told), due[n]);
    }
    Due.book(x, 0, 2, 1, 6, 1);
    Due.refused(x, "38: wrong", () -> x.won(0, 2), -5);
    Due.told(x, "38: not so far", () -> x.won(0, 1), 0);
    Due.is("38: age of the tin", x.thingOf(3, 3), 0);
  }

  private static void booked() {
    EndsInFive x = Due.stall("slips 8;rule 2;price 7;thing 0 2 0;thing 3 4 0;thing 4 6 1;thing 2 8 0;buyer 5;buyer 30");
    Due.book(x, 0, 1, 4, 1, 8, 6);
    Due.unrefused(x, "39: booked", () -> x.booked(0, 4, 1), 15);
    Due.is("39: purse", x.buyerOf(1, 0), 2);
    Due.is("39: theirs", x.buyerOf(1, 1), 15);
    Due.is("39: taken", x.status(7), 28);
    Due.is("39: goes", x.status(3), 4);
    Due.is("39: in", x.status(2), 4);
    Due.is("39: what stands", x.status(5), 0);
    Due.is("39: age of the tin", x.thingOf(3, 3), 1);
    Due.is("39: age of the others", x.thingOf(0, 3), 0);
    Due.is("39: the seed stays", x.status(9), 1);
    Due.is("39: none", x.booked(0, 0, 1), 0);
    Due.is("39: none is free", x.status(7), 28);
    Due.is("39: a slip whose thing was brought", x.slipOf(2, 2), 1);
    EndsInFive y = Due.stall("thing 3 5 0;thing 2 10 0;buyer 20");
    Due.book(y, 0, 0, 5, 10);
    Due.is("39: the purse is just enough", y.booked(0, 2, 0), 3);
    Due.is("39: a tin that was brought", y.thingOf(1, 3), 1);
    Due.is("39: its purse", y.buyerOf(0, 0), 0);
  }

  private static void bookRefusals() {
    EndsInFive x = Due.stall("thing 4 5 1;buyer 19;buyer 99");
    Due.book(x, 0, 0, 1, 2, 5);
    x.show(1, 0);
    for (int bad : new int[] {-1, 8, MIN, MAX}) {
      Due.refused(x, "37: shelf " + bad, () -> x.judge(bad, 0), -2);
      Due.refused(x, "38: shelf " + bad, () -> x.won(bad, 0), -2);
      Due.refused(x, "39: shelf " + bad, () -> x.booked(bad, 0, 0), -2);
    }
    for (int bad : new int[] {-1, 41, MIN, MAX}) {
      for (int s = 0; s < 3; s++) {
        final int shelf = s;
        Due.refused(x, "37: n " + bad, () -> x.judge(shelf, bad), -2);
        Due.refused(x, "38: n " + bad, () -> x.won(shelf, bad), -2);
        Due.refused(x, "39: n " + bad, () -> x.booked(shelf, bad, 0), -2);
      }
    }
    for (int bad : new int[] {-1, 2, MIN, MAX}) {
      for (int s = 0; s < 3; s++) {
        final int shelf = s;
        Due.refused(x, "39: buyer " + bad, () -> x.booked(shelf, 0, bad), -2);
      }
    }
    Due.refused(x, "37: a thing", () -> x.judge(1, 40), -3);
    Due.refused(x, "38: a thing", () -> x.won(1, 40), -3);
    Due.refused(x, "39: a thing", () -> x.booked(1, 40, 0), -3);
    Due.refused(x, "37: nothing", () -> x.judge(2, 40), -4);
    Due.refused(x, "38: nothing", () -> x.won(2, 40), -4);
    Due.refused(x, "39: nothing", () -> x.booked(2, 40, 0), -4);
    Due.refused(x, "37: fewer", () -> x.judge(0, 4), -2);
    Due.refused(x, "38: fewer", () -> x.won(0, 4), -2);
    Due.refused(x, "39: fewer", () -> x.booked(0, 4, 0), -2);
    Due.refused(x, "39: the purse isn't enough", () -> x.booked(0, 2, 0), -5);
    Due.told(x, "38: it would be right", () -> x.won(0, 3), 1);
    x.set(0, 0, 5);
    Due.refused(x, "38: wrong", () -> x.won(0, 3), -5);
    Due.refused(x, "39: wrong", () -> x.booked(0, 3, 1), -5);
    x.set(0, 0, 1);
    x.set(0, 2, 2);
    Due.refused(x, "39: wrong at the last", () -> x.booked(0, 3, 1), -5);
  }

  private static void chain() {
    EndsInFive x = Due.stall("slips 60;rule 2;thing 0 2 0;thing 4 4 5;thing 4 6 6;thing 5 8 0;thing 5 10 4;buyer 99");
    int[] due = {1, 11, -1, -1, -1};
    x.likes(0, 0, 999);
    Due.is("25: a plan ahead of the chains", x.plan(0) > 0 ? 1 : 0, 1);
    for (int t = 0; t < due.length; t++) {
      final int told = t;
      Due.told(x, "40: chain " + t, () -> x.chain(told), due[t]);
    }
    goInTruth(x, 1);
    Due.told(x, "40: one go less", () -> x.chain(1), 10);
    Due.told(x, "40: twelve", () -> x.chain(2), 12);
    goInTruth(x, 2);
    Due.told(x, "40: it doesn't stand", () -> x.chain(0), 0);
    EndsInFive y = Due.stall("slips 22;rule 2;thing 5 2 0;thing 5 4 6");
    Due.told(y, "40: sunk for eleven", () -> y.chain(0), 12);
    Due.told(y, "40: and held", () -> y.chain(1), -1);
    EndsInFive z = Due.stall("slips 24;rule 2;thing 5 2 0");
    Due.told(z, "40: sunk for twelve", () -> z.chain(0), -1);
    EndsInFive w = Due.stall("slips 8;rule 2;thing 4 2 2;thing 4 4 3;out 1;out 3;out 5");
    Due.told(w, "40: too few blanks", () -> w.chain(0), -1);
    chainByWhisky();
    for (int bad : new int[] {-1, 5, MIN, MAX}) {
      Due.refused(x, "40: thing " + bad, () -> x.chain(bad), -2);
    }
  }

  private static void chainByWhisky() {
    EndsInFive x = Due.stall("slips 20;rule 2;thing 0 2 0;thing 2 4 0;thing 4 6 9;thing 3 8 0;thing 3 10 0;thing 4 12 9");
    Due.told(x, "40: the whisky itself", () -> x.chain(3), 1);
    Due.told(x, "40: two ahead of it, then the whisky", () -> x.chain(2), 3);
    Due.told(x, "40: two, a whisky and a whisky", () -> x.chain(5), 4);
    x.buyer(9);
    x.likes(0, 2, 999);
    Due.is("25: a plan weighs more than can come about", x.plan(0) > 0 ? 1 : 0, 1);
    Due.told(x, "40: and a chain doesn't take it over", () -> x.chain(2), 3);
    EndsInFive y = Due.stall("slips 4;rule 2;thing 4 2 9;thing 3 4 0");
    Due.told(y, "40: brought at once", () -> y.chain(0), 1);
    // The whisky brings the first tin; its slip is a blank that makes up the second go of two for the held one.
    EndsInFive z = Due.stall("slips 6;rule 2;thing 2 2 0;thing 4 4 1;thing 3 6 0;out 1;out 3;out 5");
    Due.told(z, "40: by its blank", () -> z.chain(1), 2);
  }

  private static void dearest() {
    EndsInFive x = Due.stall("thing 0 5 0;thing 4 10 9;thing 0 15 0;buyer 99;buyer 99;likes 0 1 5;likes 0 2 5;likes 1 0 1");
    Due.told(x, "41: of two the first", () -> x.dearest(0), 1);
    Due.told(x, "41: the other's", () -> x.dearest(1), 0);
    x.likes(0, 2, 6);
    Due.told(x, "41: the last", () -> x.dearest(0), 2);
    goInTruth(x, 15);
    Due.told(x, "41: of what stands", () -> x.dearest(0), 1);
    goInTruth(x, 5);
    Due.told(x, "41: one they don't like", () -> x.dearest(1), 1);
    EndsInFive y = Due.stall("thing 0 5 0;buyer 99");
    goInTruth(y, 5);
    Due.told(y, "41: none stands", () -> y.dearest(0), -1);
    for (int bad : new int[] {-1, 2, MIN, MAX}) {
      Due.refused(x, "41: buyer " + bad, () -> x.dearest(bad), -2);
    }
  }

  private static void fondest() {
    EndsInFive x = Due.stall("thing 0 5 0;thing 0 10 0");
    Due.refused(x, "42: no buyers", () -> x.fondest(0), -5);
    Due.refused(x, "42: bad first", () -> x.fondest(2), -2);
    Due.read(x, "buyer 9;buyer 9;buyer 9;likes 1 0 5;likes 2 0 5;likes 2 1 1");
    Due.told(x, "42: of two the first", () -> x.fondest(0), 1);
    Due.told(x, "42: the last", () -> x.fondest(1), 2);
    x.likes(0, 1, 1);
    Due.told(x, "42: the first", () -> x.fondest(1), 0);
    for (int bad : new int[] {-1, 2, MIN, MAX}) {
      Due.refused(x, "42: thing " + bad, () -> x.fondest(bad), -2);
    }
  }

  private static void envy() {
    EndsInFive x = Due.stall("thing 0 5 0;thing 0 10 0;thing 0 15 0;buyer 99;buyer 99;buyer 99;"
        + "likes 0 0 5;likes 0 1 5;likes 1 0 4;likes 1 1 3;likes 2 0 1;likes 2 1 1;likes 2 2 2");
    Due.told(x, "43: no one has anything", x::envy, 0);
    Due.book(x, 0, 0, 5, 10, 15);
    x.booked(0, 1, 0);
    Due.told(x, "43: two like what the first has", x::envy, 2);
    x.set(0, 0, 10);
    x.booked(0, 1, 1);
    // The first likes both as much: no envy. The second likes the first's more. The third likes each more than nothing.
    Due.told(x, "43: three pairs", x::envy, 3);
    x.set(0, 0, 15);
    x.booked(0, 1, 2);
    Due.told(x, "43: the third has enough", x::envy, 1);
    x.likes(0, 1, 6);
    Due.told(x, "43: each likes the other's more: two pairs, of the one and the other", x::envy, 2);
  }

  private static void poorest() {
    EndsInFive x = new EndsInFive();
    Due.refused(x, "44: no buyers", x::poorest, -5);
    Due.read(x, "buyer 9;buyer 8;buyer 8");
    Due.told(x, "44: of two the first", x::poorest, 1);
    x.purse(2, 0);
    Due.told(x, "44: the last", x::poorest, 2);
    x.purse(0, 0);
    Due.told(x, "44: the first", x::poorest, 0);
  }

  private static void oldest() {
    EndsInFive x = Due.stall("buyer 99");
    Due.refused(x, "45: no things", x::oldest, -5);
    Due.read(x, "thing 0 5 0;thing 2 10 0;thing 2 15 0");
    Due.told(x, "45: all are new", x::oldest, 0);
    goInTruth(x, 15);
    Due.told(x, "45: a tin that was won", x::oldest, 2);
    goInTruth(x, 10);
    Due.told(x, "45: of two the first", x::oldest, 1);
    x.fete(1000);
    Due.told(x, "45: both came back", x::oldest, 1);
    goInTruth(x, 15);
    Due.told(x, "45: won again", x::oldest, 2);
  }
}
