import java.util.function.Supplier;

/** The edges of promises 1 to 21, and the order of their refusals. */
final class EdgesOfPromises1 {
  private EdgesOfPromises1() {
  }

  static void run() {
    newObject();
    row();
    set();
    copy();
    copyRefusals();
    element();
    holds();
    show();
    says();
    saysByKinds();
    saysRefusals();
    slips();
    rule();
    price();
    thing();
    buyer();
    likes();
    purse();
    feed();
    wipe();
    stall();
    thingOf();
    buyerOf();
    slipOf();
  }

  private static Supplier<EndsInFive> with(String text) {
    return () -> Due.stall(text);
  }

  private static void newObject() {
    Edges.of("1", "20 SLIPS, no THINGS, no BUYERS; SHELVES hold NOTHING; THE TAPE is empty.");
    EndsInFive x = new EndsInFive();
    Edges.is("slips", x.status(0), 20);
    Edges.is("things", x.status(4), 0);
    Edges.is("what stands", x.status(5), 0);
    Edges.is("buyers", x.status(6), 0);
    Edges.is("shelves that hold something", x.status(10), 0);
    Edges.is("the tape", x.status(8), 0);
    for (int what = 12; what <= 16; what++) {
      Edges.is("refusals", x.status(what), 0);
    }
    Edges.noneMayBe(EndsInFive::new, "thing", (y, v) -> y.thingOf(v, 0));
    Edges.noneMayBe(EndsInFive::new, "buyer", (y, v) -> y.buyerOf(v, 0));
    for (int s = 0; s < 8; s++) {
      Edges.is("shelf", x.holds(s), -1);
      Edges.is("no row", x.element(s, 0), 0);
    }
    Edges.is("wipe", x.wipe(), 0);
    Edges.is("a tape that ends at once", x.stall(), -20);
    x.slips(9);
    x.row(0, 0, 1);
    x.buyer(1);
    Edges.is("another is new all the same", new EndsInFive().status(0), 20);
    Edges.is("another is new all the same", new EndsInFive().status(6), 0);
    Edges.is("another is new all the same", new EndsInFive().status(10), 0);
  }

  private static void row() {
    Edges.of("2", "SHELF s holds a new ROW: 1. BAD.");
    Edges.due(Edges::rich, "where there was nothing", x -> x.row(7, 3, 40), 1);
    Edges.due(Edges::rich, "where a row was", x -> x.row(0, 3, 40), 1);
    Edges.due(Edges::rich, "where a thing was", x -> x.row(2, 3, 40), 1);
    Edges.due(Edges::rich, "a new one is empty", x -> x.row(0, 0, 4) + x.element(0, 0) + x.element(0, 3), 1);
    Edges.bounds(Edges::rich, "shelf", (x, v) -> x.row(v, 0, 0), 0, 7);
    Edges.bounds(Edges::rich, "sort", (x, v) -> x.row(0, v, 0), 0, 4);
    Edges.bounds(Edges::rich, "elements", (x, v) -> x.row(0, 0, v), 0, 40);
    Edges.refused(Edges::rich, "all three", x -> x.row(8, 5, 41), Edges.BAD);
  }

  private static void set() {
    Edges.of("3", "Element i of the ROW in SHELF s becomes v: 1. BAD SHELF; OTHER; NOTHING; BAD i.");
    for (int i = 0; i < 4; i++) {
      final int at = i;
      EndsInFive x = Edges.rich();
      Edges.is("set", x.set(0, i, 77), 1);
      for (int k = 0; k < 4; k++) {
        Edges.is("element " + k, x.element(0, k), k == i ? 77 : new int[] {3, 1, 7, 9}[k]);
      }
      Edges.due(Edges::rich, "v as great as can be", y -> y.set(0, at, Long.MAX_VALUE), 1);
    }
    Edges.bounds(Edges::rich, "i of four", (x, v) -> x.set(0, v, 5), 0, 3);
    Edges.bounds(Edges::rich, "i of two", (x, v) -> x.set(1, v, 5), 0, 1);
    for (int shelf : new int[] {-1, 8, Edges.MIN, Edges.MAX}) {
      Edges.refused(Edges::rich, "shelf, and i", x -> x.set(shelf, -1, 0), Edges.BAD);
    }
    for (int i : new int[] {0, -1, 40, Edges.MIN, Edges.MAX}) {
      Edges.refused(Edges::rich, "a thing, whatever i", x -> x.set(2, i, 0), Edges.OTHER);
      Edges.refused(Edges::rich, "nothing, whatever i", x -> x.set(7, i, 0), Edges.NOTHING);
    }
  }

  private static EndsInFive twoRows(int n, int m) {
    EndsInFive x = Due.stall("thing 0 5 0");
    x.row(0, 2, n);
    x.row(1, 2, m);
    x.row(2, 3, n);
    for (int i = 0; i < n; i++) {
      x.set(0, i, 100 + i);
    }
    for (int i = 0; i < m; i++) {
      x.set(1, i, 200 + i);
    }
    x.show(3, 0);
    return x;
  }

  private static void copy() {
    Edges.of("4", "n elements of the ROW in SHELF p from place i on come to places j on of that in q (as they were): n. ");
    int[][] may = {{0, 0, 40}, {0, 0, 0}, {39, 39, 1}, {0, 39, 1}, {39, 0, 1}, {1, 0, 39}, {0, 1, 39}, {40, 40, 0}, {5, 30, 10}};
    for (int[] m : may) {
      for (int q = 0; q < 2; q++) {
        EndsInFive x = twoRows(40, 40);
        Edges.is("copy " + m[0] + " to " + m[1], x.copy(0, q, m[0], m[1], m[2]), m[2]);
        for (int k = 0; k < 40; k++) {
          boolean isCopied = k >= m[1] && k < m[1] + m[2];
          Edges.is("element " + k, x.element(q, k), isCopied ? 100 + k - m[1] + m[0] : 100 + 100 * q + k);
          Edges.is("the other row", x.element(1 - q, k), 200 - 100 * q + k);
        }
      }
    }
    Edges.due(() -> twoRows(40, 1), "to a shorter row", x -> x.copy(0, 1, 39, 0, 1) + x.element(1, 0), 140);
    Edges.due(() -> twoRows(1, 0), "none to an empty row", x -> x.copy(0, 1, 0, 0, 0), 0);
    Edges.due(() -> twoRows(0, 0), "none of none", x -> x.copy(1, 1, 0, 0, 0), 0);
  }

  private static void copyRefusals() {
    Edges.of("4", "BAD SHELVES; OTHER (also ROWS of two SORTS, if both hold something); NOTHING; BAD the others.");
    Supplier<EndsInFive> rows = () -> twoRows(6, 4);
    for (int shelf : new int[] {-1, 8, Edges.MIN, Edges.MAX}) {
      for (int another : new int[] {0, 3, 4, -1, 8}) {
        Edges.refused(rows, "from " + shelf + " to " + another, x -> x.copy(shelf, another, -1, 0, 0), Edges.BAD);
        Edges.refused(rows, "from " + another + " to " + shelf, x -> x.copy(another, shelf, 0, -1, 0), Edges.BAD);
      }
    }
    int[][] others = {{3, 0}, {0, 3}, {3, 3}, {3, 4}, {4, 3}, {0, 2}, {2, 0}};
    int[][] nothings = {{4, 0}, {0, 4}, {4, 4}, {4, 7}};
    for (int n : new int[] {0, 1, -1, 41, Edges.MAX}) {
      for (int[] o : others) {
        Edges.refused(rows, "from " + o[0] + " to " + o[1], x -> x.copy(o[0], o[1], n, n, n), Edges.OTHER);
      }
      for (int[] o : nothings) {
        Edges.refused(rows, "from " + o[0] + " to " + o[1], x -> x.copy(o[0], o[1], n, n, n), Edges.NOTHING);
      }
    }
    Edges.bounds(rows, "i", (x, v) -> x.copy(0, 1, v, 0, 2), 0, 4);
    Edges.bounds(rows, "j", (x, v) -> x.copy(0, 1, 0, v, 2), 0, 2);
    Edges.bounds(rows, "n, by the second row", (x, v) -> x.copy(0, 1, 0, 0, v), 0, 4);
    Edges.bounds(rows, "n, by the first row", (x, v) -> x.copy(1, 0, 0, 0, v), 0, 4);
    Edges.bounds(rows, "n, from further on", (x, v) -> x.copy(0, 0, 5, 0, v), 0, 1);
    Edges.bounds(rows, "n, to further on", (x, v) -> x.copy(0, 0, 0, 5, v), 0, 1);
    Edges.refused(rows, "i and n that would wrap", x -> x.copy(0, 1, Edges.MAX, 0, Edges.MAX), Edges.BAD);
    Edges.refused(rows, "j and n that would wrap", x -> x.copy(0, 1, 0, Edges.MAX, 2), Edges.BAD);
    Edges.refused(rows, "i below 0, n makes up for it", x -> x.copy(0, 1, -1, 0, 2), Edges.BAD);
  }

  private static void element() {
    Edges.of("5", "Element i of the ROW; 0: none, no ROW (nothing is refused).");
    int[] row = {3, 1, 7, 9};
    for (int i = 0; i < 4; i++) {
      final int at = i;
      Edges.tells(Edges::rich, "element " + i, x -> x.element(0, at), row[i]);
    }
    Edges.tells(Edges::rich, "of longs", x -> x.element(1, 0), -1);
    for (int i : new int[] {-1, 4, 39, 40, Edges.MIN, Edges.MAX}) {
      Edges.tells(Edges::rich, "none: " + i, x -> x.element(0, i), 0);
    }
    for (int shelf : new int[] {2, 3, 4, 7, -1, 8, Edges.MIN, Edges.MAX}) {
      for (int i : new int[] {0, -1, 40}) {
        Edges.tells(Edges::rich, "no row: " + shelf, x -> x.element(shelf, i), 0);
      }
    }
    Edges.tells(() -> twoRows(0, 0), "an empty row", x -> x.element(0, 0), 0);
    Edges.tells(() -> twoRows(40, 40), "the last of forty", x -> x.element(0, 39), 139);
  }

  private static void holds() {
    Edges.of("6", "What SHELF s holds: NONE NOTHING, no SHELF; 0 to 4 a ROW by its SORT; 10 and the number of a THING.");
    for (int sort = 0; sort <= 4; sort++) {
      final int told = sort;
      Edges.tells(() -> {
        EndsInFive x = Edges.rich();
        x.row(7, told, 0);
        return x;
      }, "a row", x -> x.holds(7), sort);
    }
    for (int thing = 0; thing <= 5; thing++) {
      final int told = thing;
      Edges.tells(() -> {
        EndsInFive x = Edges.rich();
        x.show(0, told);
        return x;
      }, "a thing, whether it stands or not", x -> x.holds(0), 10 + thing);
    }
    for (int shelf : new int[] {4, 7, -1, 8, Edges.MIN, Edges.MAX}) {
      Edges.tells(Edges::rich, "nothing, no shelf: " + shelf, x -> x.holds(shelf), -1);
    }
  }

  private static void show() {
    Edges.of("7", "SHELF s holds a THING, or NOTHING (thing NONE): 1. BAD.");
    for (int shelf : new int[] {0, 2, 7}) {
      for (int thing = -1; thing <= 5; thing++) {
        final int told = thing;
        Edges.due(Edges::rich, "show", x -> x.show(shelf, told), 1);
        EndsInFive x = Edges.rich();
        x.show(shelf, thing);
        Edges.is("it holds it", x.holds(shelf), thing < 0 ? -1 : 10 + thing);
        Edges.is("no row is there", x.element(shelf, 0), 0);
      }
    }
    Edges.bounds(Edges::rich, "shelf", (x, v) -> x.show(v, 5), 0, 7);
    Edges.bounds(Edges::rich, "thing", (x, v) -> x.show(0, v), -1, 5);
    Edges.bounds(EndsInFive::new, "thing, of none", (x, v) -> x.show(0, v), -1, -1);
    Edges.refused(Edges::rich, "both", x -> x.show(8, 6), Edges.BAD);
  }

  private static void says() {
    Edges.of("8", "What the THING in SHELF s, taken for one of a KIND, says: THING how much all BUYERS LIKE it together; "
        + "BOTTLE 1 if it STANDS, else 0; TIN its AGE; WHISKY which THING it would bring (NONE);");
    Supplier<EndsInFive> stall = () -> {
      EndsInFive x = Due.stall("slips 30;thing 3 5 0;thing 1 10 0;thing 2 15 0;thing 4 20 9;buyer 0;buyer 0;buyer 0;buyer 0;"
          + "likes 0 0 999;likes 1 0 999;likes 2 0 999;likes 3 0 999;likes 3 1 1");
      for (int t = 0; t < 4; t++) {
        x.show(t, t);
      }
      return x;
    };
    Edges.tells(stall, "all like it", x -> x.says(0, 0), 3996);
    Edges.tells(stall, "one likes it", x -> x.says(1, 0), 1);
    Edges.tells(stall, "no one likes it", x -> x.says(2, 0), 0);
    Edges.tells(with("thing 0 5 0"), "no buyers", x -> x.show(0, 0) + x.says(0, 0) + x.show(0, -1), 2);
    Edges.tells(stall, "a bottle stands", x -> x.says(1, 1), 1);
    Edges.tells(stall, "a whisky as a bottle", x -> x.says(0, 1), 1);
    Edges.tells(stall, "a tin that is new", x -> x.says(2, 2), 0);
    Edges.tells(stall, "what a whisky would bring", x -> x.says(0, 3), 2);
    Supplier<EndsInFive> later = () -> {
      EndsInFive x = stall.get();
      Edges.draw(x, 10, 15);
      return x;
    };
    Edges.tells(later, "a bottle that was won", x -> x.says(1, 1), 0);
    Edges.tells(later, "a tin that was won", x -> x.says(2, 2), 1);
    Edges.tells(later, "the next that it would bring", x -> x.says(0, 3), 3);
    Edges.tells(later, "all like what was won as before", x -> x.says(1, 0), 1);
    Supplier<EndsInFive> last = () -> {
      EndsInFive x = later.get();
      Edges.draw(x, 5);
      return x;
    };
    Edges.tells(last, "nothing is left to bring: NONE, and it isn't refused", x -> x.says(0, 3), -1);
    Supplier<EndsInFive> won = () -> {
      EndsInFive x = stall.get();
      Edges.draw(x, 5);
      return x;
    };
    Edges.tells(won, "a whisky that was won: what it would bring now", x -> x.says(0, 3), 3);
    Edges.tells(won, "a tin that was brought", x -> x.says(2, 2), 1);
    Edges.tells(last, "a whisky that was won, as a bottle", x -> x.says(0, 1), 0);
    Edges.tells(last, "a whisky that was won, as a thing", x -> x.says(0, 0), 3996);
  }

  private static void saysByKinds() {
    Edges.of("8", "HELD how many GOES more it waits for (0: none); SUNK how many SLIPS must be out more till no more than half "
        + "are IN (0: none).");
    for (int a = 0; a <= 9; a++) {
      EndsInFive x = Due.stall("slips 60;thing 4 60 " + a + ";thing 5 55 " + a + ";buyer 0");
      x.show(0, 0);
      x.show(1, 1);
      for (int goes = 0; goes <= 20; goes++) {
        int due = Math.max(0, 2 * a - goes);
        Edges.is("a " + a + " behind " + goes, x.says(0, 4), due);
        Edges.is("one that is sunk, as held", x.says(1, 4), due);
        Edges.draw(x, goes + 1);
      }
    }
    EndsInFive brought = Due.stall("thing 3 5 0;thing 5 10 9;buyer 0");
    Edges.draw(brought, 5);
    brought.show(0, 1);
    Edges.is("one that was won, as held: 18 goes less one", brought.says(0, 4), 17);
    Edges.is("one that was won: ten of twenty less one", brought.says(0, 5), 9);
    for (int n = 2; n <= 60; n++) {
      EndsInFive x = Due.stall("slips " + n + ";rule 2;thing 5 2 9;buyer 0");
      x.show(0, 0);
      for (int out = 0; out < n; out++) {
        int more = 0;
        while (2 * (n - out - more) > n) {
          more++;
        }
        Edges.is(out + " of " + n + " are out", x.says(0, 5), more);
        if (out < n - 1) {
          Edges.draw(x, out == 0 ? 1 : out + 2);
        }
      }
    }
  }

  private static void saysRefusals() {
    Edges.of("8", "BAD SHELF, KIND; OTHER (also if it is of no such KIND nor of one under it); NOTHING. (NONE isn't refused.)");
    Edges.bounds(() -> {
      EndsInFive x = Edges.rich();
      x.show(7, 5);
      return x;
    }, "kind of one that is sunk", (x, v) -> x.says(7, v), 0, 5);
    for (int shelf : new int[] {-1, 8, Edges.MIN, Edges.MAX}) {
      Edges.refused(Edges::rich, "shelf", x -> x.says(shelf, 0), Edges.BAD);
      Edges.refused(Edges::rich, "shelf and kind", x -> x.says(shelf, 6), Edges.BAD);
    }
    for (int kind : new int[] {-1, 6, Edges.MIN, Edges.MAX}) {
      for (int shelf : new int[] {0, 2, 7}) {
        Edges.refused(Edges::rich, "kind, in shelf " + shelf, x -> x.says(shelf, kind), Edges.BAD);
      }
    }
    boolean[][] may = {{true, false, false, false, false, false}, {true, true, false, false, false, false},
      {true, false, true, false, false, false}, {true, true, false, true, false, false}, {true, false, false, false, true, false},
      {true, false, false, false, true, true}};
    for (int kind = 0; kind < 6; kind++) {
      final int thing = kind;
      Supplier<EndsInFive> shown = () -> {
        EndsInFive x = Edges.rich();
        x.show(7, thing);
        return x;
      };
      for (int wanted = 0; wanted < 6; wanted++) {
        final int as = wanted;
        Edges.refused(Edges::rich, "a row", x -> x.says(0, as), Edges.OTHER);
        Edges.refused(Edges::rich, "nothing", x -> x.says(7, as), Edges.NOTHING);
        if (!may[kind][wanted]) {
          Edges.refused(shown, kind + " is no " + wanted, x -> x.says(7, as), Edges.OTHER);
        } else {
          Edges.tells(shown, kind + " is a " + wanted, x -> Math.min(-1, x.says(7, as)), -1);
        }
      }
    }
  }

  /** All things are won, and yet they are there. */
  private static EndsInFive allWon() {
    EndsInFive x = Due.stall("thing 0 5 0;buyer 9");
    Edges.draw(x, 5);
    return x;
  }

  private static void slips() {
    Edges.of("9", "SLIPS become n, all IN: what they were. BAD; STUCK: there are THINGS.");
    for (int n : new int[] {1, 2, 19, 20, 21, 59, 60}) {
      EndsInFive x = Due.stall("slips 30;out 1;out 30;buyer 99");
      x.go(0);
      Edges.is("what they were", x.slips(n), 30);
      Edges.is("slips", x.status(0), n);
      Edges.is("all in", x.status(2), n);
      Edges.is("the last is in", x.slipOf(n, 0), 1);
      Edges.is("goes stay", x.status(3), 1);
    }
    Edges.bounds(with("out 3;buyer 5"), "n", EndsInFive::slips, 1, 60);
    for (int n : new int[] {1, 20, 60}) {
      Edges.refused(with("thing 0 5 0"), "there is a thing", x -> x.slips(n), Edges.STUCK);
      Edges.refused(EdgesOfPromises1::allWon, "a thing that was won", x -> x.slips(n), Edges.STUCK);
    }
    for (int n : new int[] {0, -1, 61, Edges.MIN, Edges.MAX}) {
      Edges.refused(with("thing 0 5 0"), "bad ahead of stuck", x -> x.slips(n), Edges.BAD);
    }
  }

  private static void rule() {
    Edges.of("10", "RULE becomes v: what it was. BAD; STUCK: there are THINGS.");
    for (int v = 2; v <= 10; v++) {
      EndsInFive x = Due.stall("rule 7;out 3");
      Edges.is("what it was", x.rule(v), 7);
      Edges.is("rule", x.status(1), v);
      Edges.is("the least that wins", x.slipOf(v, 1), 1);
      Edges.is("what is out stays out", x.status(2), 19);
    }
    Edges.bounds(with("out 3;buyer 5"), "v", EndsInFive::rule, 2, 10);
    for (int v : new int[] {2, 5, 10}) {
      Edges.refused(with("thing 0 5 0"), "there is a thing", x -> x.rule(v), Edges.STUCK);
      Edges.refused(EdgesOfPromises1::allWon, "a thing that was won", x -> x.rule(v), Edges.STUCK);
    }
    for (int v : new int[] {1, 0, -5, 11, Edges.MIN, Edges.MAX}) {
      Edges.refused(with("thing 0 5 0"), "bad ahead of stuck", x -> x.rule(v), Edges.BAD);
    }
  }

  private static void price() {
    Edges.of("11", "PRICE (what 0), FIVE (1) becomes v: what it was. BAD.");
    for (int v : new int[] {1, 2, 98, 99}) {
      EndsInFive x = Edges.rich();
      Edges.is("what the price was", x.price(0, v), 5);
      Edges.is("what five was", x.price(1, v), 20);
      Edges.is("the price is", x.price(0, 7), v);
      Edges.is("five is", x.price(1, 7), v);
    }
    Edges.bounds(Edges::rich, "price", (x, v) -> x.price(0, v), 1, 99);
    Edges.bounds(Edges::rich, "five", (x, v) -> x.price(1, v), 1, 495);
    Edges.bounds(Edges::rich, "what", (x, v) -> x.price(v, 5), 0, 1);
    Edges.refused(Edges::rich, "a five is no price", x -> x.price(0, 495), Edges.BAD);
    Edges.refused(Edges::rich, "both", x -> x.price(2, 0), Edges.BAD);
  }

  private static EndsInFive sevenThings(boolean isFull) {
    EndsInFive x = Due.stall("slips 60;out 60");
    for (int t = 0; t < (isFull ? 8 : 7); t++) {
      x.thing(0, 5 * t + 5, 0);
    }
    return x;
  }

  private static void thing() {
    Edges.of("12", "A THING: its number. BAD: also a SLIP that doesn't WIN; STUCK: it isn't IN, or another THING's; FULL.");
    Edges.due(EndsInFive::new, "the first", x -> x.thing(0, 5, 0), 0);
    Edges.due(() -> sevenThings(false), "the eighth", x -> x.thing(5, 55, 9), 7);
    Edges.refused(() -> sevenThings(true), "the ninth", x -> x.thing(5, 55, 9), Edges.FULL);
    for (boolean isFull : new boolean[] {false, true}) {
      Supplier<EndsInFive> fresh = () -> sevenThings(isFull);
      Edges.refused(fresh, "out", x -> x.thing(0, 60, 0), Edges.STUCK);
      Edges.refused(fresh, "another's", x -> x.thing(0, 5, 0), Edges.STUCK);
      for (int slip : new int[] {0, 1, 4, 6, 59, 61, 65, -5, Edges.MIN, Edges.MAX}) {
        Edges.refused(fresh, "slip " + slip, x -> x.thing(0, slip, 0), Edges.BAD);
      }
      for (int slip : new int[] {60, 5, 55}) {
        for (int bad : new int[] {-1, 6, Edges.MIN, Edges.MAX}) {
          Edges.refused(fresh, "kind " + bad + " on " + slip, x -> x.thing(bad, slip, 0), Edges.BAD);
        }
        for (int bad : new int[] {-1, 10, Edges.MIN, Edges.MAX}) {
          Edges.refused(fresh, "a " + bad + " on " + slip, x -> x.thing(0, slip, bad), Edges.BAD);
        }
      }
    }
  }

  private static void buyer() {
    Edges.of("13", "A BUYER: its number. BAD; FULL.");
    Edges.due(EndsInFive::new, "the first", x -> x.buyer(0), 0);
    Edges.due(with("buyer 1;buyer 2;buyer 3"), "the fourth", x -> x.buyer(9999), 3);
    Supplier<EndsInFive> four = with("buyer 1;buyer 2;buyer 3;buyer 4");
    for (int purse : new int[] {0, 9999}) {
      Edges.refused(four, "a fifth", x -> x.buyer(purse), Edges.FULL);
    }
    for (int purse : new int[] {-1, 10000, Edges.MIN, Edges.MAX}) {
      Edges.refused(four, "bad ahead of full", x -> x.buyer(purse), Edges.BAD);
    }
    Edges.bounds(with("buyer 1;buyer 2;buyer 3"), "purse", EndsInFive::buyer, 0, 9999);
  }

  private static void likes() {
    Edges.of("14", "A BUYER LIKES a THING by v: by how much before. BAD.");
    for (int v : new int[] {0, 1, 998, 999}) {
      EndsInFive x = Edges.rich();
      Edges.is("before", x.likes(0, 4, v), 800);
      Edges.is("now", x.likes(0, 4, 3), v);
      Edges.is("of what was won, too", x.likes(0, 0, v), 90);
    }
    Edges.bounds(Edges::rich, "buyer", (x, v) -> x.likes(v, 5, 1), 0, 2);
    Edges.bounds(Edges::rich, "thing", (x, v) -> x.likes(2, v, 1), 0, 5);
    Edges.bounds(Edges::rich, "v", (x, v) -> x.likes(2, 5, v), 0, 999);
    Edges.noneMayBe(with("thing 0 5 0"), "no buyers", (x, v) -> x.likes(v, 0, 1));
    Edges.noneMayBe(with("buyer 5"), "no things", (x, v) -> x.likes(0, v, 1));
  }

  private static void purse() {
    Edges.of("15", "PURSE of a BUYER becomes v: what it was. BAD.");
    for (int v : new int[] {0, 1, 9998, 9999}) {
      EndsInFive x = Edges.rich();
      Edges.is("what it was", x.purse(2, v), 7);
      Edges.is("what it is", x.purse(2, 5), v);
      Edges.is("the first's", x.buyerOf(0, 0), 500);
    }
    Edges.bounds(Edges::rich, "buyer", (x, v) -> x.purse(v, 1), 0, 2);
    Edges.bounds(Edges::rich, "v", (x, v) -> x.purse(2, v), 0, 9999);
    Edges.noneMayBe(EndsInFive::new, "no buyers", (x, v) -> x.purse(v, 1));
  }

  private static EndsInFive fullTape() {
    EndsInFive x = new EndsInFive();
    Due.feed(x, "price 5" + " ".repeat(243));
    return x;
  }

  private static void feed() {
    Edges.of("16", "THE TAPE gets one byte (0 to 255) behind it: its size. BAD; FULL.");
    for (int letter : new int[] {0, 1, 32, 127, 128, 254, 255}) {
      Edges.due(EndsInFive::new, "the first", x -> x.feed(letter), 1);
      Edges.refused(EdgesOfPromises1::fullTape, "full", x -> x.feed(letter), Edges.FULL);
    }
    Edges.is("behind it: read in this order", Due.read(new EndsInFive(), "buyer 12;rule 3"), 2);
    Edges.bounds(Edges::rich, "letter", EndsInFive::feed, 0, 255);
    for (int letter : new int[] {-1, 256, Edges.MIN, Edges.MAX}) {
      Edges.refused(EdgesOfPromises1::fullTape, "bad ahead of full", x -> x.feed(letter), Edges.BAD);
    }
  }

  private static void wipe() {
    Edges.of("17", "THE TAPE is empty: its size ahead.");
    for (int size : new int[] {0, 1, 249, 250}) {
      Supplier<EndsInFive> fresh = () -> {
        EndsInFive x = new EndsInFive();
        Due.feed(x, "9".repeat(size));
        return x;
      };
      Edges.due(fresh, "wipe", EndsInFive::wipe, size);
      EndsInFive x = fresh.get();
      x.wipe();
      Edges.is("empty", x.status(8), 0);
      Edges.is("empty, wiped again", x.wipe(), 0);
      Edges.is("what is fed then is all", Due.read(x, "buyer 9"), 1);
    }
  }

  private static void stall() {
    Edges.of("18", "THE TAPE is a STALL: how many STATEMENTS; -20 less the FAULT (that is refused, too: BAD). "
        + "THE TAPE is empty then, either way.");
    Edges.reads(EndsInFive::new, "buyer 1", 1);
    Edges.reads(EndsInFive::new, "buyer 1;buyer 2", 2);
    Edges.reads(EndsInFive::new, "rule2" + ";rule2".repeat(40), 41);
    Edges.fault(EndsInFive::new, "", 0);
    Edges.fault(EndsInFive::new, "?", 0);
    Edges.fault(EndsInFive::new, " ?", 1);
    Edges.fault(EndsInFive::new, " ".repeat(249) + "?", 249);
    Edges.fault(EndsInFive::new, " ".repeat(250), 250);
    EndsInFive x = new EndsInFive();
    for (int k = 1; k <= 3; k++) {
      Edges.is("an empty tape", x.stall(), -20);
      Edges.is("is refused", x.status(12), k);
    }
    Edges.is("it is fed again from the first byte on", Due.read(x, "buyer 1"), 1);
    Edges.is("it is empty", x.stall(), -20);
    Edges.is("the buyer came once", x.status(6), 1);
  }

  private static void thingOf() {
    Edges.of("19", "Of a THING: KIND (0), SLIP (1), a (2), AGE (3), who has it (4; NONE: it STANDS), 10 and a BUYER: how much they "
        + "LIKE it. BAD. (NONE isn't refused.)");
    int[][] due = {{0, 3, 0, 0, 1}, {1, 6, 0, 0, -1}, {2, 9, 0, 1, 1}, {3, 12, 0, 0, -1}, {4, 15, 9, 0, -1}, {5, 18, 1, 0, -1}};
    int[][] likes = {{90, 0, 0}, {0, 0, 0}, {0, 30, 0}, {0, 0, 0}, {800, 0, 0}, {0, 0, 999}};
    for (int t = 0; t < 6; t++) {
      final int thing = t;
      for (int what = 0; what < 5; what++) {
        final int told = what;
        Edges.tells(Edges::rich, "of " + t + ", " + what, x -> x.thingOf(thing, told), due[t][what]);
      }
      for (int b = 0; b < 3; b++) {
        final int told = 10 + b;
        Edges.tells(Edges::rich, "of " + t + ", " + told, x -> x.thingOf(thing, told), likes[t][b]);
      }
    }
    Edges.bounds(Edges::rich, "thing", (x, v) -> x.thingOf(v, 0), 0, 5);
    Edges.bounds(Edges::rich, "what", (x, v) -> x.thingOf(5, v), 0, 4);
    Edges.bounds(Edges::rich, "what, of buyers", (x, v) -> x.thingOf(5, v), 10, 12);
    for (int what : new int[] {9, 10, 11, 14, Edges.MIN, Edges.MAX, Edges.MIN + 10}) {
      Edges.refused(with("thing 0 5 0"), "what " + what + ", of no buyers", x -> x.thingOf(0, what), Edges.BAD);
    }
    Edges.bounds(with("thing 0 5 0;buyer 1;buyer 1;buyer 1;buyer 1"), "what, of four", (x, v) -> x.thingOf(0, v), 10, 13);
    for (int what = 5; what < 10; what++) {
      final int told = what;
      Edges.refused(Edges::rich, "what " + what, x -> x.thingOf(0, told), Edges.BAD);
    }
  }

  private static void buyerOf() {
    Edges.of("20", "Of a BUYER: PURSE (0), THINGS they have (1, bits), all they LIKE of these together (2), of what STANDS (3). BAD.");
    int[][] due = {{500, 0, 0, 800}, {20, 5, 30, 0}, {7, 0, 0, 999}};
    for (int b = 0; b < 3; b++) {
      final int buyer = b;
      for (int what = 0; what < 4; what++) {
        final int told = what;
        Edges.tells(Edges::rich, "of " + b + ", " + what, x -> x.buyerOf(buyer, told), due[b][what]);
      }
    }
    Supplier<EndsInFive> all = () -> {
      StringBuilder text = new StringBuilder("slips 16;rule 2;buyer 9");
      for (int t = 0; t < 8; t++) {
        text.append(";thing 0 ").append(2 * t + 2).append(" 0");
      }
      EndsInFive x = Due.stall(text.toString());
      for (int t = 0; t < 8; t++) {
        x.likes(0, t, 999);
      }
      return x;
    };
    Edges.tells(all, "all stand", x -> x.buyerOf(0, 3), 7992);
    Supplier<EndsInFive> had = () -> {
      EndsInFive x = all.get();
      Edges.draw(x, 2, 4, 6, 8, 10, 12, 14, 16);
      return x;
    };
    Edges.tells(had, "all are had", x -> x.buyerOf(0, 1), 255);
    Edges.tells(had, "all are liked", x -> x.buyerOf(0, 2), 7992);
    Edges.tells(had, "none stands", x -> x.buyerOf(0, 3), 0);
    Edges.bounds(Edges::rich, "buyer", (x, v) -> x.buyerOf(v, 3), 0, 2);
    Edges.bounds(Edges::rich, "what", (x, v) -> x.buyerOf(2, v), 0, 3);
    Edges.noneMayBe(EndsInFive::new, "no buyers", (x, v) -> x.buyerOf(v, 0));
  }

  private static void slipOf() {
    Edges.of("21", "Of a SLIP: whether it is IN (0; 1, 0), WINS (1), can be DRAWN (2), the THING on it (3; NONE). BAD. "
        + "(NONE isn't refused.)");
    int[][] due = {{1, 0, 0, 0, -1}, {2, 1, 0, 1, -1}, {3, 0, 1, 0, 0}, {6, 1, 1, 1, 1}, {7, 0, 0, 0, -1}, {9, 0, 1, 0, 2},
      {12, 1, 1, 1, 3}, {15, 1, 1, 0, 4}, {18, 1, 1, 0, 5}, {21, 1, 1, 1, -1}, {29, 1, 0, 1, -1}, {30, 1, 1, 1, -1}};
    for (int[] d : due) {
      for (int what = 0; what < 4; what++) {
        final int told = what;
        Edges.tells(Edges::rich, "of " + d[0] + ", " + what, x -> x.slipOf(d[0], told), d[1 + what]);
      }
    }
    Edges.bounds(Edges::rich, "slip", (x, v) -> x.slipOf(v, 0), 1, 30);
    Edges.bounds(Edges::rich, "what", (x, v) -> x.slipOf(30, v), 0, 3);
  }
}
