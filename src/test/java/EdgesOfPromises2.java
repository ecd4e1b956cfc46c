import java.util.function.Supplier;

/** The edges of promises 22 to 53, and the order of their refusals. */
final class EdgesOfPromises2 {
  private EdgesOfPromises2() {
  }

  static void run() {
    drawable();
    wins();
    worth();
    plan();
    till();
    atOnce();
    mean();
    all();
    takings();
    bestPrice();
    full();
    guess();
    suspect();
    sure();
    left();
    judge();
    won();
    booked();
    bookedRefusals();
    chain();
    dearest();
    fondest();
    envy();
    poorest();
    oldest();
    go();
    five();
    plays();
    fete();
    seed();
    image();
    back();
    backOfShelves();
    backOfNothing();
    status();
    statusOfRefusals();
  }

  private static Supplier<EndsInFive> with(String text) {
    return () -> Due.stall(text);
  }

  private static void drawable() {
    Edges.of("22", "How many SLIPS can be DRAWN.");
    for (int n : new int[] {1, 2, 59, 60}) {
      Edges.tells(with("slips " + n), "all of " + n, EndsInFive::drawable, n);
    }
    Edges.tells(with("slips 1;out 1"), "none is in", EndsInFive::drawable, 0);
    Edges.tells(with("slips 2;rule 2;thing 4 2 1;out 1"), "one is in, and it is held", EndsInFive::drawable, 0);
    Edges.tells(with("slips 2;rule 2;thing 4 2 0;out 1"), "it isn't held any more", EndsInFive::drawable, 1);
    Edges.tells(Edges::rich, "26 are in, two are held", EndsInFive::drawable, 24);
  }

  private static void wins() {
    Edges.of("23", "What would be WON by a SLIP (bits). BAD; STUCK: it can't be DRAWN.");
    int[][] due = {{2, 0}, {6, 2}, {12, 8 + 16}, {21, 0}, {30, 0}};
    for (int[] d : due) {
      Edges.tells(Edges::rich, "by " + d[0], x -> x.wins(d[0]), d[1]);
    }
    for (int slip : new int[] {1, 3, 7, 9}) {
      Edges.refused(Edges::rich, "out: " + slip, x -> x.wins(slip), Edges.STUCK);
    }
    for (int slip : new int[] {15, 18}) {
      Edges.refused(Edges::rich, "held: " + slip, x -> x.wins(slip), Edges.STUCK);
    }
    for (int slip : new int[] {0, -1, 31, 60, 61, 64, 65, Edges.MIN, Edges.MAX}) {
      Edges.refused(Edges::rich, "slip " + slip, x -> x.wins(slip), Edges.BAD);
    }
    Edges.tells(() -> eightThings(), "the eighth", x -> x.wins(16), 128);
  }

  private static EndsInFive eightThings() {
    StringBuilder text = new StringBuilder("slips 16;rule 2;price 1;buyer 0;buyer 0;buyer 0;buyer 0");
    for (int t = 0; t < 8; t++) {
      text.append(";thing 0 ").append(2 * t + 2).append(" 0");
    }
    return Due.stall(text.toString());
  }

  /** A call of a buyer, as far as there are buyers. */
  private static void ofBuyers(Edges.Made made, int number) {
    Edges.bounds(Edges::rich, "buyer", made, 0, 2, number);
    Edges.bounds(EdgesOfPromises2::eightThings, "of four", made, 0, 3, number);
    Edges.bounds(with("buyer 0"), "of one", made, 0, 0, number);
    Edges.bounds(with("thing 0 5 0"), "of none", made, 0, -1, number);
  }

  private static void worth() {
    Edges.of("24", "WORTH. BAD.");
    // The whisky brings the one that is held; three of 24 slips hold things.
    Edges.tells(Edges::rich, "the first", x -> x.worth(0), 800000 / 24);
    Edges.tells(Edges::rich, "the second", x -> x.worth(1), 0);
    Edges.tells(Edges::rich, "the third", x -> x.worth(2), 0);
    ofBuyers(EndsInFive::worth, Edges.BAD);
  }

  private static void plan() {
    Edges.of("25", "PLAN: VALUE. BAD.");
    Edges.tells(Edges::rich, "nothing that the second likes stands", x -> x.plan(1), 0);
    Edges.tells(with("slips 2;rule 2;thing 0 2 0;out 1;buyer 0;likes 0 0 999"), "value", x -> x.plan(0), 989000);
    ofBuyers(EndsInFive::plan, Edges.BAD);
  }

  private static void till() {
    Edges.of("26", "TILL. BAD.");
    Edges.tells(Edges::rich, "nothing that the second likes stands", x -> x.till(1), 0);
    Edges.tells(with("slips 2;rule 2;thing 0 2 0;out 1;buyer 0;likes 0 0 999"), "never", x -> x.till(0), 60);
    ofBuyers(EndsInFive::till, Edges.BAD);
  }

  private static void atOnce() {
    Edges.of("27", "AT ONCE. -10000002.");
    Edges.tells(Edges::rich, "below 0", x -> x.atOnce(1), -20000);
    Edges.tells(with("slips 2;rule 2;thing 0 2 0;buyer 0;likes 0 0 40"), "even", x -> x.atOnce(0), 0);
    Edges.tells(with("slips 2;rule 2;thing 0 2 0;buyer 0;likes 0 0 41"), "above 0", x -> x.atOnce(0), 1000);
    ofBuyers(EndsInFive::atOnce, Edges.FAR_BAD);
  }

  private static void mean() {
    Edges.of("28", "MEAN of m goes (0 to 8). BAD.");
    Edges.tells(Edges::rich, "of none", x -> x.mean(0, 0), 0);
    Edges.tells(Edges::rich, "of one: as worth", x -> x.mean(0, 1), 800000 / 24);
    Edges.bounds(Edges::rich, "m", (x, v) -> x.mean(2, v), 0, 8);
    ofBuyers((x, v) -> x.mean(v, 8), Edges.BAD);
    Edges.refused(Edges::rich, "both", x -> x.mean(3, 9), Edges.BAD);
    Edges.refused(Edges::rich, "no buyer, no goes", x -> x.mean(-1, 0), Edges.BAD);
  }

  private static void all() {
    Edges.of("29", "ALL. -10000002.");
    Edges.tells(Edges::rich, "above 0", x -> x.all(0), 800 - 5 * 26);
    Edges.tells(Edges::rich, "below 0", x -> x.all(1), -5 * 26);
    ofBuyers(EndsInFive::all, Edges.FAR_BAD);
  }

  private static void takings() {
    Edges.of("30", "TAKINGS at a price (1 to 99). BAD.");
    Edges.tells(Edges::rich, "at 33 the first, fifteen times", x -> x.takings(33), 33 * 15);
    Edges.tells(Edges::rich, "at 34 it isn't worth it", x -> x.takings(34), 0);
    Edges.tells(Edges::rich, "at 19 as many as are in", x -> x.takings(19), 19 * 26);
    Edges.bounds(Edges::rich, "price", EndsInFive::takings, 1, 99);
    Edges.bounds(EndsInFive::new, "price, with no buyers", EndsInFive::takings, 1, 99);
  }

  private static void bestPrice() {
    Edges.of("31", "BEST PRICE.");
    // 500 at 5 (26 of 100), 10 (26 of 50), 15 (26 of 33), 20 (25), 25 (20), 30 (16).
    Edges.tells(Edges::rich, "of two with 500 the least", EndsInFive::bestPrice, 20);
    Edges.tells(EndsInFive::new, "nothing is taken", EndsInFive::bestPrice, 5);
    Edges.tells(EdgesOfPromises2::eightThings, "nothing is liked", EndsInFive::bestPrice, 5);
  }

  private static void full() {
    Edges.of("32", "FULL.");
    Edges.tells(EndsInFive::new, "all are in", EndsInFive::full, 4);
    Edges.tells(with("slips 4;out 1"), "three of four", EndsInFive::full, 3);
    Edges.tells(with("slips 4;out 1;out 2"), "two of four", EndsInFive::full, 2);
    Edges.tells(with("slips 4;out 1;out 2;out 3"), "one of four", EndsInFive::full, 1);
    Edges.tells(with("slips 4;out 1;out 2;out 3;out 4"), "none", EndsInFive::full, 0);
    Edges.tells(with("slips 5;out 1"), "four of five, rounded up", EndsInFive::full, 4);
  }

  private static void guess() {
    Edges.of("33", "GUESS. BAD; STUCK: it can't be so full.");
    int[][] stuck = {{1, 1}, {1, 2}, {1, 3}, {2, 1}, {2, 3}, {3, 1}};
    for (int n = 1; n <= 5; n++) {
      for (int q = 0; q <= 4; q++) {
        boolean can = true;
        for (int[] s : stuck) {
          can &= s[0] != n || s[1] != q;
        }
        final int quarters = q;
        for (int what = 0; what < 2; what++) {
          final int told = what;
          if (!can) {
            Edges.refused(with("slips " + n), q + " quarters of " + n, x -> x.guess(quarters, told), Edges.STUCK);
          } else {
            Edges.due(with("slips " + n), q + " quarters of " + n, x -> Math.min(0, x.guess(quarters, told)), 0);
          }
        }
      }
    }
    for (int bad : new int[] {-1, 2, Edges.MIN, Edges.MAX}) {
      Edges.refused(with("slips 1"), "bad what ahead of stuck", x -> x.guess(1, bad), Edges.BAD);
    }
    Edges.bounds(with("slips 4"), "quarters", (x, v) -> x.guess(v, 1), 0, 4);
    Edges.bounds(with("slips 4"), "what", (x, v) -> x.guess(3, v), 0, 1);
  }

  private static void suspect() {
    Edges.of("34", "SUSPECT. BAD: also k not 0 to m.");
    for (int m : new int[] {1, 2, 30, 59, 60}) {
      Edges.bounds(EndsInFive::new, "k of " + m, (x, v) -> x.suspect(m, v), 0, m);
    }
    Edges.bounds(EndsInFive::new, "m, of 0", (x, v) -> x.suspect(v, 0), 1, 60);
    Edges.refused(EndsInFive::new, "m 0, k 0", x -> x.suspect(0, 0), Edges.BAD);
    Edges.refused(EndsInFive::new, "m -1, k -1", x -> x.suspect(-1, -1), Edges.BAD);
    Edges.refused(EndsInFive::new, "m 61, k 61", x -> x.suspect(61, 61), Edges.BAD);
    Edges.refused(EndsInFive::new, "m 1, k 2: nothing by 0", x -> x.suspect(1, 2), Edges.BAD);
    Edges.refused(EndsInFive::new, "m far below, k the same", x -> x.suspect(Edges.MIN, Edges.MIN), Edges.BAD);
  }

  private static void sure() {
    Edges.of("35", "SURE (f 0 to 1,000,000). BAD.");
    Edges.bounds(EndsInFive::new, "f", (x, v) -> x.sure(1, v), 0, 1000000);
    Edges.bounds(EndsInFive::new, "m", (x, v) -> x.sure(v, 0), 1, 60);
    Edges.refused(EndsInFive::new, "both", x -> x.sure(0, -1), Edges.BAD);
    Edges.tells(EndsInFive::new, "a piece less than all", x -> x.sure(60, 999999), 60);
    Edges.tells(EndsInFive::new, "59 of 60", x -> x.sure(60, 983606), 59);
  }

  private static void left() {
    Edges.of("36", "LEFT. BAD k (0 to how many SLIPS are IN); STUCK.");
    Edges.bounds(EndsInFive::new, "k", EndsInFive::left, 0, 20);
    Edges.bounds(with("out 1;out 2"), "k of 18", EndsInFive::left, 0, 18);
    Edges.bounds(with("slips 1;out 1"), "k of none", EndsInFive::left, 0, 0);
    for (int kind = 3; kind <= 5; kind++) {
      Supplier<EndsInFive> stall = with("thing " + kind + " 5 0;out 1");
      for (int k : new int[] {0, 1, 19}) {
        Edges.refused(stall, "kind " + kind, x -> x.left(k), Edges.STUCK);
      }
      for (int k : new int[] {-1, 20, Edges.MIN, Edges.MAX}) {
        Edges.refused(stall, "bad ahead of stuck, kind " + kind, x -> x.left(k), Edges.BAD);
      }
    }
  }

  /** Shelf 0: a book of four, all of which can be drawn; 1: a thing; 2: nothing; 3: an empty row; 4: a row of 40. */
  private static EndsInFive books() {
    EndsInFive x = Due.stall("thing 4 5 1;thing 3 10 0;thing 2 15 0;price 9;buyer 35;buyer 36;buyer 9999;buyer 0;likes 1 2 70");
    Due.book(x, 0, 0, 1, 10, 5, 15);
    x.show(1, 0);
    x.row(3, 0, 0);
    x.row(4, 3, 40);
    x.image();
    x.price(1, 7);
    return x;
  }

  private interface OfBook {
    long on(EndsInFive x, int s, int n);
  }

  /** What judge, won and booked refuse alike. */
  private static void refusalsOfBooks(OfBook made) {
    for (int shelf : new int[] {-1, 8, Edges.MIN, Edges.MAX}) {
      Edges.refused(EdgesOfPromises2::books, "shelf", x -> made.on(x, shelf, 0), Edges.BAD);
      Edges.refused(EdgesOfPromises2::books, "shelf and n", x -> made.on(x, shelf, 41), Edges.BAD);
    }
    for (int n : new int[] {-1, 41, Edges.MIN, Edges.MAX}) {
      for (int s = 0; s < 5; s++) {
        final int shelf = s;
        Edges.refused(EdgesOfPromises2::books, "n " + n + ", shelf " + s, x -> made.on(x, shelf, n), Edges.BAD);
      }
    }
    for (int n : new int[] {0, 1, 40}) {
      Edges.refused(EdgesOfPromises2::books, "a thing", x -> made.on(x, 1, n), Edges.OTHER);
      Edges.refused(EdgesOfPromises2::books, "nothing", x -> made.on(x, 2, n), Edges.NOTHING);
    }
    Edges.refused(EdgesOfPromises2::books, "five of four", x -> made.on(x, 0, 5), Edges.BAD);
    Edges.refused(EdgesOfPromises2::books, "forty of four", x -> made.on(x, 0, 40), Edges.BAD);
    Edges.refused(EdgesOfPromises2::books, "one of none", x -> made.on(x, 3, 1), Edges.BAD);
    Edges.due(EdgesOfPromises2::books, "none of none", x -> Math.min(-1, made.on(x, 3, 0)), -1);
    Edges.due(EdgesOfPromises2::books, "four of four", x -> Math.min(-1, made.on(x, 0, 4)), -1);
  }

  private static void judge() {
    Edges.of("37", "A BOOK of the first n elements (0 to 40) of the ROW in SHELF s: WRONG; NONE. BAD SHELF, n; OTHER; NOTHING; "
        + "BAD: fewer elements.");
    refusalsOfBooks(EndsInFive::judge);
    for (int n = 0; n <= 4; n++) {
      final int told = n;
      Edges.tells(EdgesOfPromises2::books, "right: NONE, and it isn't refused", x -> x.judge(0, told), -1);
    }
    for (int n = 1; n <= 40; n++) {
      final int told = n;
      Edges.tells(EdgesOfPromises2::books, "the first is 0, and none", x -> x.judge(4, told), 0);
    }
    Edges.tells(() -> Due.stall("slips 1;rule 2"), "a row of none", x -> x.row(0, 0, 0) + x.judge(0, 0) + x.show(0, -1), 1);
  }

  private static void won() {
    Edges.of("38", "WON by it (bits). BAD; OTHER; NOTHING; BAD likewise; STUCK: it is WRONG.");
    refusalsOfBooks(EndsInFive::won);
    int[] due = {0, 0, 3, 3, 7};
    for (int n = 0; n <= 4; n++) {
      final int told = n;
      Edges.tells(EdgesOfPromises2::books, "won by " + n, x -> x.won(0, told), due[n]);
    }
    for (int n : new int[] {1, 40}) {
      Edges.refused(EdgesOfPromises2::books, "wrong", x -> x.won(4, n), Edges.STUCK);
    }
    Edges.tells(EdgesOfPromises2::books, "none of what is wrong", x -> x.won(4, 0), 0);
    for (int at = 0; at < 4; at++) {
      final int place = at;
      Supplier<EndsInFive> wrong = () -> {
        EndsInFive x = books();
        x.set(0, place, 0);
        return x;
      };
      Edges.refused(wrong, "wrong at " + at, x -> x.won(0, place + 1), Edges.STUCK);
      Edges.due(wrong, "right ahead of it", x -> x.won(0, place), due[at]);
    }
  }

  private static void booked() {
    Edges.of("39", "It comes to pass in truth, for PRICE each, for a BUYER: THINGS WON (bits).");
    int[] due = {0, 0, 3, 3, 7};
    for (int n = 0; n <= 4; n++) {
      EndsInFive x = books();
      Edges.is("won by " + n, x.booked(0, n, 1), due[n]);
      Edges.is("purse", x.buyerOf(1, 0), 36 - 9 * n);
      Edges.is("taken", x.status(7), 9 * n);
      Edges.is("goes", x.status(3), n);
      Edges.is("in", x.status(2), 20 - n);
      Edges.is("theirs", x.buyerOf(1, 1), due[n]);
      Edges.is("the others' is nothing", x.buyerOf(0, 1) + x.buyerOf(2, 1) + x.buyerOf(3, 1), 0);
      Edges.is("age of the tin", x.thingOf(2, 3), n == 4 ? 1 : 0);
      Edges.is("the row stays", x.element(0, 3), 15);
      Edges.is("no draw", x.status(9), 1);
      Edges.is("what stands", x.status(5), 7 & ~due[n]);
    }
    EndsInFive y = Due.stall("slips 60;price 99;buyer 3960");
    y.row(0, 0, 40);
    for (int i = 0; i < 40; i++) {
      y.set(0, i, 60 - i);
    }
    Edges.is("forty", y.booked(0, 40, 0), 0);
    Edges.is("for all there is", y.buyerOf(0, 0), 0);
    Edges.is("taken", y.status(7), 3960);
    Edges.is("twenty are in", y.status(2), 20);
    Edges.due(EdgesOfPromises2::books, "none, for an empty purse", x -> x.booked(0, 0, 3), 0);
  }

  private static void bookedRefusals() {
    Edges.of("39", "BAD, also the BUYER; OTHER; NOTHING; BAD; STUCK: it is WRONG, or PURSE isn't enough.");
    refusalsOfBooks((x, s, n) -> x.booked(s, n, 2));
    Edges.bounds(EdgesOfPromises2::books, "buyer", (x, v) -> x.booked(0, 0, v), 0, 3);
    for (int buyer : new int[] {-1, 4, Edges.MIN, Edges.MAX}) {
      for (int s = 0; s < 5; s++) {
        final int shelf = s;
        Edges.refused(EdgesOfPromises2::books, "buyer, shelf " + s, x -> x.booked(shelf, 0, buyer), Edges.BAD);
        Edges.refused(EdgesOfPromises2::books, "buyer, forty of shelf " + s, x -> x.booked(shelf, 40, buyer), Edges.BAD);
      }
    }
    Edges.due(EdgesOfPromises2::books, "purse 35, three goes", x -> x.booked(0, 3, 0), 3);
    Edges.refused(EdgesOfPromises2::books, "purse 35, four goes", x -> x.booked(0, 4, 0), Edges.STUCK);
    Edges.due(EdgesOfPromises2::books, "purse 36, four goes", x -> x.booked(0, 4, 1), 7);
    Edges.refused(EdgesOfPromises2::books, "an empty purse", x -> x.booked(0, 1, 3), Edges.STUCK);
    Edges.refused(EdgesOfPromises2::books, "wrong", x -> x.booked(4, 1, 2), Edges.STUCK);
    Edges.refused(EdgesOfPromises2::books, "wrong, and an empty purse", x -> x.booked(4, 1, 3), Edges.STUCK);
    Edges.refused(() -> {
      EndsInFive x = books();
      x.set(0, 3, 10);
      return x;
    }, "wrong at the last: none of it comes to pass", x -> x.booked(0, 4, 2), Edges.STUCK);
  }

  private static void chain() {
    Edges.of("40", "CHAIN; NONE. BAD. (NONE isn't refused.)");
    // The whisky brings the one that is held; eleven slips more must be out for the one that is sunk.
    int[] due = {0, 1, 0, 1, 1, 12};
    for (int t = 0; t < 6; t++) {
      final int thing = t;
      Edges.tells(Edges::rich, "chain " + t, x -> x.chain(thing), due[t]);
    }
    Edges.tells(with("thing 4 5 9"), "none", x -> x.chain(0), -1);
    Edges.bounds(Edges::rich, "thing", EndsInFive::chain, 0, 5);
    Edges.bounds(EdgesOfPromises2::eightThings, "thing of eight", EndsInFive::chain, 0, 7);
    Edges.noneMayBe(EndsInFive::new, "no things", EndsInFive::chain);
  }

  private static void dearest() {
    Edges.of("41", "The THING that STANDS which a BUYER LIKES most, of several the first; NONE: none STANDS. BAD. "
        + "(NONE isn't refused.)");
    for (int first = 0; first < 8; first++) {
      EndsInFive x = eightThings();
      for (int t = first; t < 8; t++) {
        x.likes(3, t, 999);
      }
      Edges.is("the first of several", x.dearest(3), first);
      Edges.is("another likes none", x.dearest(0), 0);
      Edges.draw(x, 2 * first + 2);
      Edges.is("the next that stands", x.dearest(3), first == 7 ? 0 : first + 1);
    }
    EndsInFive x = eightThings();
    x.likes(0, 3, 1);
    x.likes(0, 6, 2);
    Edges.is("the most", x.dearest(0), 6);
    Edges.draw(x, 14);
    Edges.is("of what stands", x.dearest(0), 3);
    Edges.draw(x, 8, 2);
    Edges.is("what isn't liked", x.dearest(0), 1);
    Edges.tells(() -> {
      EndsInFive y = eightThings();
      Edges.draw(y, 2, 4, 6, 8, 10, 12, 14, 16);
      return y;
    }, "none stands", y -> y.dearest(0), -1);
    Edges.tells(with("buyer 0"), "there is none", y -> y.dearest(0), -1);
    ofBuyers(EndsInFive::dearest, Edges.BAD);
  }

  private static void fondest() {
    Edges.of("42", "Who LIKES a THING most, of several the first. BAD; STUCK: no BUYERS.");
    for (int first = 0; first < 4; first++) {
      EndsInFive x = eightThings();
      Edges.is("no one likes it", x.fondest(7), 0);
      for (int b = first; b < 4; b++) {
        x.likes(b, 7, 999);
      }
      Edges.is("the first of several", x.fondest(7), first);
      Edges.is("another", x.fondest(6), 0);
      x.likes(first, 7, 998);
      Edges.is("one less", x.fondest(7), first == 3 ? 3 : first + 1);
      Edges.draw(x, 16);
      Edges.is("whether it stands or not", x.fondest(7), first == 3 ? 3 : first + 1);
    }
    Edges.bounds(Edges::rich, "thing", EndsInFive::fondest, 0, 5);
    Edges.noneMayBe(with("buyer 5"), "no things", EndsInFive::fondest);
    Edges.noneMayBe(EndsInFive::new, "no things, no buyers: bad ahead of stuck", EndsInFive::fondest);
    Edges.refused(with("thing 0 5 0"), "no buyers", x -> x.fondest(0), Edges.STUCK);
    for (int thing : new int[] {-1, 1, Edges.MIN, Edges.MAX}) {
      Edges.refused(with("thing 0 5 0"), "bad ahead of stuck", x -> x.fondest(thing), Edges.BAD);
    }
  }

  private static void envy() {
    Edges.of("43", "How many pairs of BUYERS there are of whom the one LIKES what the other has, all together, more than what they have.");
    Edges.tells(EndsInFive::new, "no buyers", EndsInFive::envy, 0);
    Edges.tells(with("buyer 5;thing 0 5 0;likes 0 0 9"), "one", EndsInFive::envy, 0);
    Edges.tells(EdgesOfPromises2::eightThings, "no one has anything", EndsInFive::envy, 0);
    int[][] due = {{0, 0, 0}, {0, 1, 1}, {5, 5, 0}, {5, 4, 0}, {5, 6, 1}, {999, 999, 0}, {998, 999, 1}};
    for (int[] d : due) {
      // The first has thing 0, which they like by d[0]; the second has thing 1, which the first likes by d[1].
      EndsInFive x = Due.stall("slips 4;rule 2;thing 0 2 0;thing 0 4 0;buyer 99;buyer 99");
      Edges.draw(x, 2);
      Due.book(x, 0, 0, 4);
      x.booked(0, 1, 1);
      x.likes(0, 0, d[0]);
      x.likes(0, 1, d[1]);
      Edges.is(d[0] + " against " + d[1], x.envy(), d[2]);
      x.likes(1, 0, 1);
      Edges.is("and the second, who likes their own by 0", x.envy(), d[2] + 1);
      x.likes(1, 1, 1);
      Edges.is("and as much", x.envy(), d[2]);
    }
    EndsInFive x = eightThings();
    for (int b = 0; b < 4; b++) {
      for (int t = 0; t < 8; t++) {
        x.likes(b, t, 100);
      }
    }
    Edges.draw(x, 2);
    Edges.is("all want what the first has", x.envy(), 3);
    Edges.draw(x, 4, 6, 8, 10, 12, 14, 16);
    Edges.is("all of it", x.envy(), 3);
    x.likes(1, 7, 0);
    Edges.is("all together more than nothing still", x.envy(), 3);
    for (int t = 0; t < 7; t++) {
      x.likes(1, t, 0);
    }
    Edges.is("the second likes none of it", x.envy(), 2);
    EndsInFive y = eightThings();
    for (int b = 0; b < 4; b++) {
      Due.book(y, 0, 0, 2 * b + 2);
      y.purse(b, 99);
      y.booked(0, 1, b);
      for (int t = 0; t < 4; t++) {
        y.likes(b, t, t == b ? 1 : 2);
      }
    }
    Edges.is("each likes each other's more", y.envy(), 12);
    y.likes(0, 4, 1);
    Edges.draw(y, 10);
    Edges.is("the first has two, together no less than each other's one", y.envy(), 9);
  }

  private static void poorest() {
    Edges.of("44", "The BUYER with the least PURSE, of several the first. STUCK: no BUYERS.");
    Edges.refused(EndsInFive::new, "no buyers", EndsInFive::poorest, Edges.STUCK);
    Edges.refused(with("thing 0 5 0"), "no buyers", EndsInFive::poorest, Edges.STUCK);
    Edges.tells(with("buyer 9999"), "one", EndsInFive::poorest, 0);
    Edges.tells(with("buyer 0;buyer 0;buyer 0;buyer 0"), "all alike", EndsInFive::poorest, 0);
    for (int least = 0; least < 4; least++) {
      StringBuilder text = new StringBuilder();
      for (int b = 0; b < 4; b++) {
        text.append(b == 0 ? "" : ";").append("buyer ").append(b < least ? 9 : 8);
      }
      Edges.tells(with(text.toString()), text.toString(), EndsInFive::poorest, least);
    }
  }

  private static void oldest() {
    Edges.of("45", "The THING of the greatest AGE, of several the first. STUCK: no THINGS.");
    Edges.refused(EndsInFive::new, "no things", EndsInFive::oldest, Edges.STUCK);
    Edges.refused(with("buyer 5"), "no things", EndsInFive::oldest, Edges.STUCK);
    Edges.tells(with("thing 2 5 0"), "one", EndsInFive::oldest, 0);
    Edges.tells(EdgesOfPromises2::eightThings, "all alike", EndsInFive::oldest, 0);
    for (int oldest = 0; oldest < 8; oldest++) {
      EndsInFive x = eightThings();
      for (int t = oldest; t < 8; t++) {
        Edges.draw(x, 2 * t + 2);
      }
      Edges.is("what was won is no older by it", x.oldest(), 0);
      x.fete(1);
      Edges.is("the first of those that came back", x.oldest(), oldest);
      Edges.draw(x, 2 * oldest + 2);
      Edges.is("whether it stands or not", x.oldest(), oldest);
    }
  }

  private static void go() {
    Edges.of("46", "A go in truth: the SLIP. BAD; STUCK: PURSE is less than PRICE, no SLIP can be DRAWN.");
    for (int price : new int[] {1, 10, 99}) {
      Edges.due(with("slips 1;price " + price + ";buyer " + price), "just enough", x -> x.go(0), 1);
      Edges.refused(with("slips 1;price " + price + ";buyer " + (price - 1)), "one less", x -> x.go(0), Edges.STUCK);
    }
    Edges.refused(with("slips 1;out 1;buyer 99"), "none is in", x -> x.go(0), Edges.STUCK);
    Edges.refused(with("slips 2;rule 2;thing 4 2 9;out 1;buyer 99"), "the one that is in is held", x -> x.go(0), Edges.STUCK);
    Edges.refused(with("slips 1;out 1;buyer 0"), "both", x -> x.go(0), Edges.STUCK);
    Edges.due(with("slips 2;rule 2;thing 0 2 0;out 1;buyer 10"), "the slip, not what is won", x -> x.go(0), 2);
    Edges.bounds(() -> {
      EndsInFive x = Edges.rich();
      x.purse(0, 5);
      x.purse(2, 5);
      return x;
    }, "buyer", EndsInFive::go, 0, 2);
    Edges.noneMayBe(EndsInFive::new, "no buyers", EndsInFive::go);
    Edges.refused(with("slips 1;out 1;buyer 0"), "bad ahead of stuck", x -> x.go(1), Edges.BAD);
  }

  private static void five() {
    Edges.of("47", "Five in truth (fewer, if no SLIP can be DRAWN any more), for FIVE: THINGS WON (bits). BAD; STUCK: PURSE is less "
        + "than FIVE, no SLIP can be DRAWN.");
    for (int n = 1; n <= 7; n++) {
      EndsInFive x = Due.stall("slips " + n + ";buyer 40");
      Edges.is("nothing is won", x.five(0), 0);
      Edges.is("goes of " + n, x.status(3), Math.min(n, 5));
      Edges.is("in", x.status(2), Math.max(0, n - 5));
      Edges.is("purse", x.buyerOf(0, 0), 0);
    }
    for (int five : new int[] {1, 40, 495}) {
      Edges.due(with("slips 2;rule 2;price 1 five " + five + ";thing 0 2 0;buyer " + five), "just enough", x -> x.five(0), 1);
      Edges.refused(with("slips 2;rule 2;price 1 five " + five + ";thing 0 2 0;buyer " + (five - 1)), "one less", x -> x.five(0),
          Edges.STUCK);
    }
    Edges.due(() -> {
      EndsInFive x = eightThings();
      for (int slip = 1; slip <= 15; slip += 2) {
        Edges.draw(x, slip);
      }
      Edges.draw(x, 2, 4, 6);
      x.price(1, 495);
      return x;
    }, "the last five", x -> x.five(0), 255 - 7);
    Edges.refused(with("slips 1;out 1;buyer 99"), "none is in", x -> x.five(0), Edges.STUCK);
    Edges.refused(with("slips 2;rule 2;thing 5 2 1;out 1;buyer 99"), "the one that is in is held", x -> x.five(0), Edges.STUCK);
    Edges.refused(with("slips 1;out 1;buyer 0"), "bad ahead of stuck", x -> x.five(1), Edges.BAD);
    Edges.bounds(() -> {
      EndsInFive x = Edges.rich();
      x.purse(2, 20);
      return x;
    }, "buyer", EndsInFive::five, 0, 2);
    Edges.noneMayBe(EndsInFive::new, "no buyers", EndsInFive::five);
  }

  private static void plays() {
    Edges.of("48", "A BUYER goes on as long as PLAN is above 0 and PURSE is PRICE at least: how many goes. BAD.");
    String one = "slips 2;rule 2;thing 0 2 0;out 1;buyer ";
    Edges.due(with(one + "10;likes 0 0 11"), "the purse is just the price", x -> x.plays(0), 1);
    Edges.due(with(one + "9;likes 0 0 11"), "the purse is one less", x -> x.plays(0), 0);
    Edges.due(with(one + "10;likes 0 0 10"), "a plan of 0", x -> x.plays(0), 0);
    Edges.due(with("buyer 9999"), "nothing to win", x -> x.plays(0), 0);
    Edges.due(with("slips 1;out 1;buyer 9999"), "none is in", x -> x.plays(0), 0);
    for (int purse = 0; purse <= 10; purse++) {
      EndsInFive x = eightAlone(purse);
      Edges.is("eight for sure, purse " + purse, x.plays(0), Math.min(8, purse));
      Edges.is("what is left of it", x.buyerOf(0, 0), purse - Math.min(8, purse));
      Edges.is("taken", x.status(7), Math.min(8, purse));
      Edges.is("nothing more is played", x.plays(0), 0);
    }
    Edges.due(with("slips 10;rule 2;price 3;buyer 3;thing 2 2 0;thing 5 4 1;thing 3 6 0;likes 0 0 9;likes 0 1 7;likes 0 2 1"),
        "a plan of a thousandth is above 0", x -> x.plan(0) + 10 * x.plays(0), 11);
    // All of sixty, till the thing is won: how many goes that takes is told by the draws.
    for (int seed = 1; seed <= 40; seed++) {
      String text = "slips 60;rule 10;price 1;thing 0 60 0;buyer 60;likes 0 0 999";
      EndsInFive x = Due.stall(text);
      EndsInFive y = Due.stall(text);
      x.seed(seed);
      y.seed(seed);
      int goes = 1;
      while (goes < 60 && y.go(0) != 60) {
        goes++;
      }
      Edges.is("till it is won", x.plays(0), goes);
      Edges.is("so many are in", x.status(2), 60 - goes);
      Edges.is("the same draws", x.status(9), y.status(9));
    }
    ofBuyers(EndsInFive::plays, Edges.BAD);
  }

  private static EndsInFive eightAlone(int purse) {
    EndsInFive x = eightThings();
    Due.read(x, "out 1;out 3;out 5;out 7;out 9;out 11;out 13;out 15");
    for (int t = 0; t < 8; t++) {
      x.likes(0, t, 2);
    }
    x.purse(0, purse);
    return x;
  }

  private static void fete() {
    Edges.of("49", "A FETE (less 0 to 1000): how many THINGS come back. BAD.");
    Edges.bounds(Edges::rich, "less", EndsInFive::fete, 0, 1000);
    for (int had = 0; had <= 8; had++) {
      EndsInFive x = eightThings();
      for (int t = 0; t < had; t++) {
        Edges.draw(x, 2 * t + 2);
        x.likes(0, t, 999);
      }
      Edges.is("none that is liked by 999", x.fete(999), 0);
      Edges.is("all of " + had, x.fete(1000), had);
      Edges.is("and none again", x.fete(1000), 0);
    }
    Edges.due(Edges::rich, "the second has two, which they like by 0 and by 30", x -> x.fete(0), 0);
    Edges.due(Edges::rich, "less than 1", x -> x.fete(1), 1);
    Edges.due(Edges::rich, "less than 30", x -> x.fete(30), 1);
    Edges.due(Edges::rich, "less than 31", x -> x.fete(31), 2);
  }

  private static void seed() {
    Edges.of("50", "SEED becomes v: the one ahead.");
    EndsInFive x = new EndsInFive();
    int ahead = 1;
    for (int v : new int[] {0, -1, 1, Edges.MIN, Edges.MAX, 65536, -65536}) {
      Edges.is("the one ahead", x.seed(v), ahead);
      Edges.is("seed", x.status(9), v);
      ahead = v;
    }
    for (int v : new int[] {Edges.MIN, -2, -3, -4, -5, -6, -10000002, Edges.MAX}) {
      Edges.due(Edges::rich, "none is refused", y -> y.seed(v), 4711);
      EndsInFive y = new EndsInFive();
      y.seed(v);
      Edges.is("a seed that looks like a refusal is told", y.seed(0), v);
      Edges.is("and counted as none", y.status(12) + y.status(13) + y.status(14) + y.status(15) + y.status(16), 0);
    }
  }

  private static void image() {
    Edges.of("51", "All is kept, but THE TAPE, SHELVES and REFUSALS: 1.");
    EndsInFive x = Edges.wiped();
    Due.feed(x, "rule");
    int bad = x.status(12);
    Edges.is("image", x.image(), 1);
    String sight = Due.sight(x);
    Edges.is("once more", x.image(), 1);
    Edges.is("nothing has changed", Due.sight(x), sight);
    for (int k = 0; k < 3; k++) {
      x.go(0);
      x.buyer(k);
      x.thing(0, 21 + 3 * k, 0);
      x.price(0, 77);
      x.price(1, 78);
      x.likes(0, 5, 6);
      x.purse(1, 0);
      x.seed(9);
      x.fete(1000);
      Edges.is("all is again as it was, time and again", x.back(), 1);
      Edges.is("sight", Due.sight(x), sight);
    }
    x.slips(0);
    x.feed('2');
    x.row(7, 0, 1);
    x.set(7, 0, 5);
    x.back();
    Edges.is("refusals aren't kept", x.status(12), bad + 1);
    Edges.is("the tape isn't", x.status(8), 5);
    Edges.is("shelves aren't", x.holds(7), 0);
    Edges.is("nor rows", x.element(7, 0), 5);
  }

  private static void back() {
    Edges.of("52", "All is again as it was kept");
    EndsInFive x = Due.stall("slips 9;rule 2;price 8 five 7;buyer 99");
    x.image();
    Due.read(x, "slips 60;rule 10;price 5 five 6;thing 2 50 9;buyer 1;likes 0 0 7;out 60");
    Edges.draw(x, 50);
    x.seed(5);
    Edges.due(() -> x, "back", EndsInFive::back, 1);
    int[] due = {9, 2, 9, 0, 0, 0, 1, 0, 0, 1};
    for (int what = 0; what < due.length; what++) {
      Edges.is("status " + what, x.status(what), due[what]);
    }
    Edges.is("price", x.price(0, 1), 8);
    Edges.is("five", x.price(1, 1), 7);
    Edges.is("purse", x.buyerOf(0, 0), 99);
    Edges.is("what can be drawn", x.drawable(), 9);
    EndsInFive y = eightThings();
    y.image();
    Edges.draw(y, 2, 4, 6, 8);
    y.fete(1);
    Edges.draw(y, 2);
    y.back();
    for (int t = 0; t < 8; t++) {
      Edges.is("age", y.thingOf(t, 3), 0);
      Edges.is("it stands", y.thingOf(t, 4), -1);
    }
    Edges.is("purse", y.buyerOf(0, 0), 0);
    Edges.is("taken", y.status(7), 0);
  }

  private static void backOfShelves() {
    Edges.of("52", "(SHELVES with THINGS hold those of the same numbers, or NOTHING): 1.");
    for (int kept = 0; kept <= 8; kept++) {
      EndsInFive x = new EndsInFive();
      x.slips(60);
      for (int t = 0; t < 8; t++) {
        if (t == kept) {
          x.image();
        }
        x.thing(t < kept ? 1 : 2, 5 * t + 5, 0);
        x.show(t, t);
      }
      if (kept == 8) {
        x.image();
      }
      x.back();
      for (int t = 0; t < 8; t++) {
        Edges.is(t + " of " + kept, x.holds(t), t < kept ? 10 + t : -1);
      }
      Edges.is("in use", x.status(10), kept);
      for (int t = kept; t < 8; t++) {
        x.thing(4, 5 * t + 5, 3);
        Edges.is("a new thing of this number isn't on the shelf", x.holds(t), -1);
      }
    }
    EndsInFive y = Due.stall("thing 0 5 0;buyer 9");
    y.show(0, 0);
    y.row(1, 4, 9);
    y.set(1, 8, 1);
    y.image();
    y.show(0, -1);
    y.back();
    Edges.is("what a shelf held isn't kept", y.holds(0), -1);
    Edges.is("a row stays", y.element(1, 8), 1);
    y.show(2, 0);
    Edges.draw(y, 5);
    y.back();
    Edges.is("the thing of that number stands again", y.says(2, 0) + y.thingOf(0, 4), -1);
  }

  private static void backOfNothing() {
    Edges.of("52", "STUCK: nothing was.");
    Edges.refused(EndsInFive::new, "a new one", EndsInFive::back, Edges.STUCK);
    Edges.refused(with("buyer 5;thing 0 5 0"), "nothing was kept", EndsInFive::back, Edges.STUCK);
    EndsInFive x = new EndsInFive();
    x.back();
    x.image();
    Edges.is("then it was", x.back(), 1);
    Edges.is("and again", x.back(), 1);
    Edges.is("one was refused", x.status(15), 1);
  }

  private static void status() {
    Edges.of("53", "SLIPS (0), RULE (1), how many are IN (2), GOES (3), THINGS (4), those that STAND (5, bits), BUYERS (6), TAKEN (7), "
        + "THE TAPE's size (8), SEED (9), SHELVES that hold something (10), SLIPS that can be DRAWN (11);");
    int[] due = {30, 3, 26, 4, 6, 2 + 8 + 16 + 32, 3, 20, 22, 4711, 4, 24};
    for (int what = 0; what < due.length; what++) {
      final int told = what;
      Edges.tells(Edges::rich, "status " + what, x -> x.status(told), due[what]);
    }
    int[] ofNew = {20, 5, 20, 0, 0, 0, 0, 0, 0, 1, 0, 20};
    for (int what = 0; what < ofNew.length; what++) {
      final int told = what;
      Edges.tells(EndsInFive::new, "of a new one " + what, x -> x.status(told), ofNew[what]);
    }
    EndsInFive x = eightThings();
    for (int s = 0; s < 8; s++) {
      x.show(s, s);
    }
    Due.feed(x, " ".repeat(250));
    Edges.is("eight things", x.status(4), 8);
    Edges.is("all stand", x.status(5), 255);
    Edges.is("four buyers", x.status(6), 4);
    Edges.is("a full tape", x.status(8), 250);
    Edges.is("eight shelves", x.status(10), 8);
  }

  private static void statusOfRefusals() {
    Edges.of("53", "12 to 16: REFUSALS -2 to -6. NONE another what.");
    EndsInFive x = Due.stall("thing 0 5 0;buyer 1;buyer 1;buyer 1;buyer 1");
    x.show(0, 0);
    Edges.Call[] refused = {y -> y.slips(0), y -> y.set(0, 0, 0), y -> y.set(1, 0, 0), y -> y.slips(1), y -> y.buyer(1)};
    for (int i = 0; i < 5; i++) {
      for (int k = 0; k <= i; k++) {
        Edges.is("refused", refused[i].on(x), -2 - i);
      }
    }
    for (int i = 0; i < 5; i++) {
      Edges.is("refusals " + (-2 - i), x.status(12 + i), i + 1);
    }
    for (int what : new int[] {-1, -2, 17, 18, 100, Edges.MIN, Edges.MAX, Edges.MIN + 12}) {
      Edges.tells(Edges::rich, "what " + what, y -> y.status(what), -1);
    }
    Edges.tells(EndsInFive::new, "the first kind of them", y -> y.status(12), 0);
    Edges.tells(EndsInFive::new, "the last", y -> y.status(16), 0);
  }
}
