/** The edges of section 1, but for the tape: slips, rule, prices, goes, things, buyers. */
final class EdgesOfTheStall {
  private static final String PART = "THE STALL";

  private EdgesOfTheStall() {
  }

  static void run() {
    slips();
    rule();
    prices();
    goes();
    thingNumbers();
    kinds();
    thingSlips();
    thingsAtFirst();
    whoHasIt();
    buyers();
    purses();
    likings();
  }

  private static EndsInFive drum(int n) {
    EndsInFive x = new EndsInFive();
    x.slips(n);
    return x;
  }

  private static EndsInFive eight(int kind) {
    EndsInFive x = new EndsInFive();
    x.slips(60);
    for (int t = 0; t < 8; t++) {
      x.thing(kind, 5 * t + 5, 0);
    }
    return x;
  }

  private static void slips() {
    Edges.of(PART, "SLIPS are numbered 1 to n (n 1 to 60; 20 at first); each is IN the drum (at first), or out.");
    Edges.bounds(EndsInFive::new, "slips", EndsInFive::slips, 1, 60);
    Edges.bounds(EndsInFive::new, "slipOf of a new one", (x, v) -> x.slipOf(v, 0), 1, 20);
    Edges.bounds(EndsInFive::new, "wins of a new one", EndsInFive::wins, 1, 20);
    for (int n : new int[] {1, 2, 19, 59, 60}) {
      Edges.bounds(() -> drum(n), "slipOf of " + n, (x, v) -> x.slipOf(v, 0), 1, n);
      Edges.bounds(() -> drum(n), "wins of " + n, EndsInFive::wins, 1, n);
      EndsInFive x = drum(n);
      x.buyer(0);
      for (int s = 1; s <= n; s++) {
        Edges.is("is in at first", x.slipOf(s, 0), 1);
      }
      for (int s = 1; s <= n; s++) {
        Edges.is("so many are in", x.status(2), n - s + 1);
        Edges.draw(x, s);
        Edges.is("is out", x.slipOf(s, 0), 0);
      }
      Edges.is("none is in", x.status(2), 0);
      Edges.is("as many slips as ever", x.status(0), n);
    }
  }

  private static void rule() {
    Edges.of(PART, "RULE (2 to 10; 5 at first): a SLIP WINS if RULE divides its number.");
    Edges.is("at first", new EndsInFive().status(1), 5);
    Edges.bounds(EndsInFive::new, "rule", EndsInFive::rule, 2, 10);
    for (int rule = 2; rule <= 10; rule++) {
      EndsInFive x = drum(60);
      x.rule(rule);
      int next = rule;
      for (int s = 1; s <= 60; s++) {
        Edges.is("rule " + rule + ", slip " + s, x.slipOf(s, 1), s == next ? 1 : 0);
        next += s == next ? rule : 0;
      }
    }
    EndsInFive x = drum(9);
    x.rule(10);
    Edges.is("no slip wins", x.slipOf(9, 1), 0);
    x.slips(10);
    Edges.is("the last alone wins", x.slipOf(10, 1), 1);
  }

  private static void prices() {
    Edges.of(PART, "PRICE of a go (1 to 99; 10 at first), FIVE (1 to 495; 40 at first): of five.");
    Edges.due(EndsInFive::new, "price at first", x -> x.price(0, 1), 10);
    Edges.due(EndsInFive::new, "five at first", x -> x.price(1, 1), 40);
    Edges.bounds(Edges::rich, "price", (x, v) -> x.price(0, v), 1, 99);
    Edges.bounds(Edges::rich, "five", (x, v) -> x.price(1, v), 1, 495);
    for (int price : new int[] {1, 99}) {
      EndsInFive x = Due.stall("buyer " + price + ";price " + price);
      x.go(0);
      Edges.is("a go for " + price, x.buyerOf(0, 0), 0);
      Edges.is("it was taken", x.status(7), price);
    }
    for (int five : new int[] {1, 495}) {
      EndsInFive x = Due.stall("buyer " + five + ";price 99 five " + five);
      x.five(0);
      Edges.is("five for " + five, x.buyerOf(0, 0), 0);
      Edges.is("it was taken", x.status(7), five);
      Edges.is("five goes", x.status(3), 5);
    }
  }

  private static void goes() {
    Edges.of(PART, "GOES: how many there were (0 at first).");
    EndsInFive x = drum(60);
    x.price(0, 1);
    x.buyer(9999);
    Edges.is("at first", x.status(3), 0);
    Edges.is("a go is had", x.go(0) > 0 ? 1 : 0, 1);
    Edges.is("one", x.status(3), 1);
    x.five(0);
    Edges.is("and five", x.status(3), 6);
    x.plays(0);
    Edges.is("none was played", x.status(3), 6);
    for (int k = 6; k < 60; k++) {
      x.go(0);
    }
    Edges.is("sixty", x.status(3), 60);
    x.go(0);
    Edges.is("none is left", x.status(3), 60);
    EndsInFive y = Due.stall("out 1;out 2;buyer 99");
    Edges.is("what is out by a text was no go", y.status(3), 0);
    Due.book(y, 0, 0, 3, 4);
    y.judge(0, 2);
    y.won(0, 2);
    Edges.is("nor a book that is judged", y.status(3), 0);
    y.booked(0, 2, 0);
    Edges.is("but one that comes to pass", y.status(3), 2);
    EndsInFive z = Due.stall("slips 2;buyer 99");
    z.five(0);
    Edges.is("fewer than five", z.status(3), 2);
  }

  private static void thingNumbers() {
    Edges.of(PART, "THINGS have numbers, 0 on, 8 at most, each of a");
    EndsInFive x = drum(60);
    Edges.noneMayBe(EndsInFive::new, "thingOf, of no things", (y, v) -> y.thingOf(v, 0));
    for (int t = 0; t < 8; t++) {
      Edges.is("its number", x.thing(0, 5 * t + 5, 0), t);
      Edges.is("so many", x.status(4), t + 1);
    }
    Edges.bounds(() -> eight(0), "thingOf, of eight", (y, v) -> y.thingOf(v, 0), 0, 7);
    Edges.bounds(() -> drumOfOne(), "thingOf, of one", (y, v) -> y.thingOf(v, 0), 0, 0);
    Edges.refused(() -> eight(0), "a ninth", y -> y.thing(0, 45, 0), Edges.FULL);
    Edges.is("bits of eight", x.status(5), 255);
  }

  private static EndsInFive drumOfOne() {
    return Due.stall("thing 0 5 0");
  }

  private static void kinds() {
    Edges.of(PART, "KIND: 0 THING; 1 BOTTLE, 2 TIN, 4 HELD, each under THING; 3 WHISKY, under BOTTLE; 5 SUNK, under HELD;");
    Edges.bounds(Edges::rich, "kind", (x, v) -> x.thing(v, 21, 0), 0, 5);
    int[][] under = {{0}, {0, 1}, {0, 2}, {0, 1, 3}, {0, 4}, {0, 4, 5}};
    for (int kind = 0; kind < 6; kind++) {
      final int told = kind;
      Edges.is("kind " + kind, eight(kind).thingOf(7, 0), kind);
      for (int wanted = 0; wanted < 6; wanted++) {
        final int as = wanted;
        boolean may = java.util.Arrays.stream(under[kind]).anyMatch(u -> u == as);
        if (may) {
          Edges.due(() -> shown(told), kind + " is a " + wanted, x -> Math.min(0, x.says(0, as) + 1), 0);
        } else {
          Edges.refused(() -> shown(told), kind + " is no " + wanted, x -> x.says(0, as), Edges.OTHER);
        }
      }
    }
  }

  private static EndsInFive shown(int kind) {
    EndsInFive x = eight(kind);
    x.show(0, 7);
    return x;
  }

  private static void thingSlips() {
    Edges.of(PART, "a SLIP that WINS, is IN, and is no other THING's;");
    for (int slip = -1; slip <= 22; slip++) {
      final int told = slip;
      boolean wins = slip == 5 || slip == 10 || slip == 15 || slip == 20;
      if (wins) {
        Edges.due(EndsInFive::new, "slip " + slip, x -> x.thing(0, told, 0), 0);
      } else {
        Edges.refused(EndsInFive::new, "slip " + slip, x -> x.thing(0, told, 0), Edges.BAD);
      }
    }
    for (int bad : new int[] {25, 60, 65, -5, Edges.MIN, Edges.MAX, Edges.MIN + 3, Edges.MAX - 2}) {
      Edges.refused(EndsInFive::new, "slip " + bad, x -> x.thing(0, bad, 0), Edges.BAD);
    }
    Edges.refused(() -> Due.stall("out 5"), "out", x -> x.thing(0, 5, 0), Edges.STUCK);
    Edges.due(() -> Due.stall("out 5"), "another is out", x -> x.thing(0, 10, 0), 0);
    Edges.refused(() -> Due.stall("thing 0 5 0"), "another's", x -> x.thing(0, 5, 0), Edges.STUCK);
    Edges.due(() -> Due.stall("thing 0 5 0"), "no other's", x -> x.thing(0, 10, 0), 1);
    Edges.refused(EdgesOfTheStall::brought, "in, but of a thing that doesn't stand", x -> x.thing(0, 10, 0), Edges.STUCK);
    Edges.due(() -> back(drum(60)), "in again", x -> x.thing(0, 60, 0), 0);
  }

  /** The second thing was brought by a whisky: its slip is in. */
  private static EndsInFive brought() {
    EndsInFive x = Due.stall("thing 3 5 0;thing 4 10 9;buyer 99");
    Edges.draw(x, 5);
    return x;
  }

  private static EndsInFive back(EndsInFive x) {
    x.buyer(0);
    Edges.draw(x, 60);
    x.fete(0);
    return x;
  }

  private static void thingsAtFirst() {
    Edges.of(PART, "a (0 to 9), AGE (0 at first);");
    Edges.bounds(Edges::rich, "a", (x, v) -> x.thing(0, 21, v), 0, 9);
    for (int kind = 0; kind < 6; kind++) {
      for (int a = 0; a < 10; a++) {
        EndsInFive x = new EndsInFive();
        x.thing(kind, 20, a);
        Edges.is("a of kind " + kind, x.thingOf(0, 2), a);
        Edges.is("age of kind " + kind, x.thingOf(0, 3), 0);
      }
    }
  }

  private static void whoHasIt() {
    Edges.of(PART, "it STANDS (at first), or a BUYER has it.");
    EndsInFive x = eight(0);
    for (int b = 0; b < 4; b++) {
      x.buyer(9999);
    }
    for (int t = 0; t < 8; t++) {
      Edges.is("it stands at first", x.thingOf(t, 4), -1);
      Due.book(x, 0, 0, 5 * t + 5);
      x.booked(0, 1, t / 2);
      Edges.is("a buyer has it", x.thingOf(t, 4), t / 2);
      Edges.is("those that stand", x.status(5), 255 & -1 << t + 1);
    }
    Edges.is("the first has", x.buyerOf(0, 1), 3);
    Edges.is("the last has", x.buyerOf(3, 1), 192);
  }

  private static EndsInFive fourBuyers() {
    return Due.stall("buyer 1;buyer 2;buyer 3;buyer 4;thing 0 5 0");
  }

  private static void buyers() {
    Edges.of(PART, "BUYERS have numbers, 0 on, 4 at most:");
    EndsInFive x = new EndsInFive();
    Edges.noneMayBe(EndsInFive::new, "buyerOf, of no buyers", (y, v) -> y.buyerOf(v, 0));
    for (int b = 0; b < 4; b++) {
      Edges.is("its number", x.buyer(7), b);
      Edges.is("so many", x.status(6), b + 1);
    }
    Edges.bounds(() -> Due.stall("buyer 3"), "buyerOf, of one", (y, v) -> y.buyerOf(v, 0), 0, 0);
    Edges.bounds(EdgesOfTheStall::fourBuyers, "buyerOf, of four", (y, v) -> y.buyerOf(v, 0), 0, 3);
    Edges.refused(EdgesOfTheStall::fourBuyers, "a fifth", y -> y.buyer(0), Edges.FULL);
  }

  private static void purses() {
    Edges.of(PART, "a PURSE (0 to 9999),");
    Edges.bounds(Edges::rich, "buyer", EndsInFive::buyer, 0, 9999);
    Edges.bounds(Edges::rich, "purse", (x, v) -> x.purse(2, v), 0, 9999);
    for (int purse : new int[] {0, 1, 9998, 9999}) {
      EndsInFive x = new EndsInFive();
      x.buyer(purse);
      Edges.is("purse", x.buyerOf(0, 0), purse);
      x.buyer(5);
      x.purse(1, purse);
      Edges.is("purse that became", x.buyerOf(1, 0), purse);
    }
  }

  private static void likings() {
    Edges.of(PART, "and how much they LIKE each THING (0 to 999; 0 at first).");
    Edges.bounds(Edges::rich, "likes", (x, v) -> x.likes(1, 5, v), 0, 999);
    EndsInFive x = eight(0);
    for (int b = 0; b < 4; b++) {
      x.buyer(0);
      for (int t = 0; t < 8; t++) {
        Edges.is("at first", x.thingOf(t, 10 + b), 0);
        x.likes(b, t, 900 + 10 * b + t);
      }
    }
    for (int b = 0; b < 4; b++) {
      for (int t = 0; t < 8; t++) {
        Edges.is("each by its own", x.thingOf(t, 10 + b), 900 + 10 * b + t);
      }
    }
    EndsInFive y = Due.stall("buyer 0;thing 0 5 0;likes 0 0 999");
    y.thing(0, 10, 0);
    Edges.is("a later thing", y.thingOf(1, 10), 0);
    EndsInFive z = Due.stall("buyer 0;thing 0 5 0");
    z.image();
    Due.read(z, "buyer 0;thing 0 10 0;likes 0 0 5;likes 1 0 6;likes 0 1 7;likes 1 1 8");
    z.back();
    Due.read(z, "buyer 0;thing 0 10 0");
    for (int b = 0; b < 2; b++) {
      for (int t = 0; t < 2; t++) {
        Edges.is("made anew behind what was kept", z.thingOf(t, 10 + b), 0);
      }
    }
  }
}
