import java.util.ArrayList;
import java.util.List;
import java.util.TreeSet;
import java.util.function.Supplier;

/** The edges of section 3 as far as it is in truth: goes, fives, fetes, draws; shelves and rows; and the refusals. */
final class EdgesInTruth {
  private static final String PART = "WHAT COMES OF IT";
  private static final int[] SEEDS = {0, 1, -1, 2, 65535, 65536, 12345, -12345, 1103515245, Edges.MAX, Edges.MIN,
    Edges.MAX - 1, Edges.MIN + 1, 0x55555555, 0xaaaaaaaa};

  private EdgesInTruth() {
  }

  static void run() {
    goes();
    fives();
    theirs();
    fete();
    feteLess();
    draws();
    drawsAreReached();
    shelves();
    rows();
    lowestBits();
    refusalsAnswer();
    bad();
    other();
    nothing();
    stuck();
    full();
    far();
    lastCall();
  }

  private static Supplier<EndsInFive> with(String text) {
    return () -> Due.stall(text);
  }

  /** SEED behind a draw, told by long numbers that don't wrap: only the lowest 32 bits are kept. */
  private static int seedBehind(int seed) {
    long product = (seed & 0xffffffffL) * 1103515245L + 12345L;
    return (int) (product & 0xffffffffL);
  }

  private static int draw(int seed, int n) {
    return (int) ((seedBehind(seed) & 0xffffffffL) / 65536 % n);
  }

  private static void goes() {
    Edges.of(PART, "IN TRUTH a BUYER has a go for PRICE (the SLIP, by numbers, of a DRAW below how many can be DRAWN),");
    List<Integer> can = List.of(2, 3, 5, 6, 7, 8, 9, 11, 12);
    for (int seed : SEEDS) {
      EndsInFive x = Due.stall("slips 12;rule 2;price 9;thing 4 4 9;thing 5 10 0;thing 0 12 0;out 1;buyer 9");
      x.seed(seed);
      Edges.is("seed " + seed, x.go(0), can.get(draw(seed, 9)));
      Edges.is("for the price", x.buyerOf(0, 0), 0);
      EndsInFive y = Due.stall("slips 1;buyer 10");
      y.seed(seed);
      Edges.is("one alone", y.go(0), 1);
      Edges.is("a draw was had for it", y.status(9), seedBehind(seed));
    }
    EndsInFive z = Due.stall("slips 60;price 1;buyer 60");
    TreeSet<Integer> in = new TreeSet<>();
    for (int s = 1; s <= 60; s++) {
      in.add(s);
    }
    for (int k = 60; k > 0; k--) {
      int slip = new ArrayList<>(in).get(draw(z.status(9), k));
      Edges.is("one of " + k, z.go(0), slip);
      in.remove(slip);
    }
    Edges.is("the purse to the last", z.buyerOf(0, 0), 0);
    Edges.refused(with("price 9;buyer 8"), "the purse is one less", x -> x.go(0), Edges.STUCK);
    Edges.refused(with("slips 1;out 1;buyer 99"), "none is in", x -> x.go(0), Edges.STUCK);
  }

  private static void fives() {
    Edges.of(PART, "or five for FIVE;");
    for (int n = 1; n <= 8; n++) {
      for (int seed : SEEDS) {
        EndsInFive x = Due.stall("slips " + n + ";price 99 five 7;buyer 7");
        EndsInFive y = Due.stall("slips " + n + ";price 1 five 7;buyer 7");
        x.seed(seed);
        y.seed(seed);
        Edges.is("nothing is won", x.five(0), 0);
        int goes = 0;
        while (goes < 5 && goes < n) {
          y.go(0);
          goes++;
        }
        Edges.is("purse", x.buyerOf(0, 0), 0);
        Edges.is("taken", x.status(7), 7);
        Edges.is("goes", x.status(3), goes);
        Edges.is("seed", x.status(9), y.status(9));
        for (int s = 1; s <= n; s++) {
          Edges.is("the slips of so many goes", x.slipOf(s, 0), y.slipOf(s, 0));
        }
      }
    }
    Edges.refused(with("price 1 five 9;buyer 8"), "the purse is one less", x -> x.five(0), Edges.STUCK);
    Edges.refused(with("slips 1;out 1;buyer 99"), "none is in", x -> x.five(0), Edges.STUCK);
    Edges.due(with("slips 4;rule 2;thing 3 2 0;thing 0 4 0;buyer 40"), "all that was won", x -> x.five(0), 3);
    EndsInFive z = Due.stall("slips 6;rule 2;thing 4 2 1;thing 4 4 2;thing 4 6 9;buyer 40;out 1");
    Edges.is("what comes free between is drawn, too: two blanks, the first", z.five(0), 1);
    Edges.is("the other two are held", z.status(3), 3);
  }

  private static void theirs() {
    Edges.of(PART, "what is WON is theirs; TAKEN: all that was paid (0 at first).");
    Edges.is("at first", new EndsInFive().status(7), 0);
    EndsInFive x = Due.stall("slips 4;rule 2;price 8 five 5;thing 3 2 0;thing 2 4 0;buyer 99;buyer 99;out 1;out 3");
    Due.book(x, 0, 0, 2);
    x.booked(0, 1, 1);
    Edges.is("the second has both", x.buyerOf(1, 1), 3);
    Edges.is("the first has none", x.buyerOf(0, 1), 0);
    Edges.is("taken", x.status(7), 8);
    x.go(0);
    Edges.is("taken for a blank", x.status(7), 16);
    x.fete(1000);
    Edges.is("a fete takes nothing", x.status(7), 16);
    x.five(0);
    Edges.is("five", x.status(7), 21);
    Edges.is("the first has both", x.buyerOf(0, 1), 3);
    x.purse(0, 0);
    Edges.is("a purse that becomes less was not paid", x.status(7), 21);
    EndsInFive y = Due.stall("slips 60;price 99 five 495;buyer 9999");
    int taken = 0;
    for (int k = 0; k < 24; k++) {
      y.purse(0, 9999);
      y.five(0);
      y.fete(0);
      taken += 495;
    }
    Edges.is("more than a purse", y.status(7), taken);
    EndsInFive z = Due.stall("slips 2;rule 2;price 9;thing 0 2 0;buyer 99;likes 0 0 999;out 1");
    Edges.is("a play", z.plays(0), 1);
    Edges.is("is paid", z.status(7), 9);
    Edges.is("and won", z.buyerOf(0, 1), 1);
  }

  private static void fete() {
    Edges.of(PART, "A FETE: all SLIPS are IN, GOES 0;");
    for (int n : new int[] {1, 2, 59, 60}) {
      EndsInFive x = Due.stall("slips " + n + ";price 1;buyer 9999;out " + n);
      for (int k = 1; k < n; k++) {
        x.go(0);
      }
      Edges.is("goes", x.status(3), n - 1);
      Edges.is("none is in", x.status(2), 0);
      Edges.is("none comes back", x.fete(1000), 0);
      Edges.is("all are in", x.status(2), n);
      Edges.is("the first", x.slipOf(1, 0), 1);
      Edges.is("the last", x.slipOf(n, 0), 1);
      Edges.is("goes", x.status(3), 0);
      Edges.is("fete behind fete", x.fete(0), 0);
      Edges.is("all are in", x.status(2), n);
    }
    EndsInFive y = Due.stall("slips 9;rule 2;thing 4 2 1;buyer 9");
    Edges.draw(y, 1, 3);
    Edges.is("it came free", y.slipOf(2, 2), 1);
    y.fete(1000);
    Edges.is("it waits anew", y.slipOf(2, 2), 0);
    EndsInFive z = Due.stall("slips 2;rule 2;thing 0 2 0;buyer 99;likes 0 0 5");
    Edges.draw(z, 2);
    z.fete(0);
    Edges.is("a slip whose thing is kept is in", z.slipOf(2, 0), 1);
    Edges.is("it is a blank", z.wins(2), 0);
  }

  private static void feteLess() {
    Edges.of(PART, "what a BUYER has and LIKES less than told STANDS again, its AGE is 1 more.");
    for (int like : new int[] {0, 1, 2, 500, 998, 999}) {
      for (int less : new int[] {0, 1, 2, 499, 500, 501, 998, 999, 1000}) {
        EndsInFive x = Due.stall("thing 0 5 0;thing 2 10 0;buyer 9;likes 0 0 " + like + ";likes 0 1 " + like);
        Edges.draw(x, 5, 10);
        String call = "liked by " + like + ", less " + less;
        Edges.is(call, x.fete(less), like < less ? 2 : 0);
        Edges.is(call + ": who has it", x.thingOf(0, 4), like < less ? -1 : 0);
        Edges.is(call + ": age", x.thingOf(0, 3), like < less ? 1 : 0);
        Edges.is(call + ": the tin's age", x.thingOf(1, 3), like < less ? 2 : 1);
        Edges.is(call + ": what stands", x.status(5), like < less ? 3 : 0);
      }
    }
    EndsInFive y = Due.stall("thing 0 5 0;thing 0 10 0;thing 0 15 0;buyer 9;buyer 9;likes 0 0 5;likes 1 0 900;likes 0 1 900;"
        + "likes 1 1 5");
    Edges.draw(y, 5);
    Due.book(y, 0, 0, 10);
    y.purse(1, 99);
    y.booked(0, 1, 1);
    Edges.is("each by what its own buyer likes", y.fete(6), 2);
    Edges.is("both stand", y.status(5), 7);
    Edges.is("what stood all along is no older", y.thingOf(2, 3), 0);
    Edges.is("again: nothing is had", y.fete(1000), 0);
    Edges.is("no older by it", y.thingOf(0, 3), 1);
    Edges.bounds(Edges::rich, "fete", EndsInFive::fete, 0, 1000);
    Edges.due(EndsInFive::new, "no things", x -> x.fete(1000), 0);
    Edges.due(() -> {
      EndsInFive x = Due.stall("slips 16;rule 2;price 1;buyer 99;thing 0 2 0;thing 1 4 0;thing 2 6 0;thing 3 8 0;"
          + "thing 4 10 0;thing 5 12 0;thing 0 14 0;thing 0 16 0;out 1;out 3;out 5;out 7;out 9;out 11;out 13;out 15");
      x.five(0);
      x.purse(0, 99);
      x.five(0);
      return x;
    }, "all eight", x -> x.fete(1), 8);
  }

  private static void draws() {
    Edges.of(PART, "A DRAW below n: SEED (1 at first) becomes SEED times 1103515245, and 12345 (an int, wrapping); "
        + "its upper 16 bits, no sign, modulo n.");
    Edges.is("at first", new EndsInFive().status(9), 1);
    Edges.is("1 becomes", seedBehind(1), 1103527590);
    EndsInFive x = Due.stall("price 1;buyer 9999");
    for (int seed : SEEDS) {
      for (int n : new int[] {1, 2, 7, 59, 60}) {
        x.slips(n);
        x.seed(seed);
        Edges.is("below " + n + " by " + seed, x.go(0), draw(seed, n) + 1);
        Edges.is("seed behind " + seed, x.status(9), seedBehind(seed));
      }
    }
    x.slips(60);
    x.seed(-1);
    int seed = -1;
    for (int k = 0; k < 400; k++) {
      x.purse(0, 1);
      Edges.is("draw " + k, x.go(0), draw(seed, 60) + 1);
      seed = seedBehind(seed);
      Edges.is("seed " + k, x.status(9), seed);
      x.fete(0);
    }
    Edges.refused(with("buyer 9"), "no go, no draw", y -> y.go(0), Edges.STUCK);
    EndsInFive z = Due.stall("buyer 99");
    Due.book(z, 0, 0, 1, 2);
    z.booked(0, 2, 0);
    Edges.is("a book draws nothing", z.status(9), 1);
  }

  private static void drawsAreReached() {
    EndsInFive x = new EndsInFive();
    x.slips(60);
    x.price(0, 1);
    x.buyer(1);
    TreeSet<Integer> reached = new TreeSet<>();
    for (int seed = 0; seed < 2000; seed++) {
      x.purse(0, 1);
      x.seed(seed * 7919);
      reached.add(x.go(0));
      x.fete(0);
    }
    Edges.is("each of sixty can come", reached.size(), 60);
    Edges.is("the first", reached.first(), 1);
    Edges.is("the last", reached.last(), 60);
  }

  private static void shelves() {
    Edges.of(PART, "SHELVES 0 to 7 hold NOTHING (at first), a ROW, or a THING.");
    EndsInFive x = Due.stall("thing 0 5 0;thing 0 10 0");
    for (int s = 0; s < 8; s++) {
      Edges.is("nothing at first", x.holds(s), -1);
    }
    Edges.is("none in use", x.status(10), 0);
    for (int s = 0; s < 8; s++) {
      x.row(s, s % 5, s);
      Edges.is("a row", x.holds(s), s % 5);
      Edges.is("in use", x.status(10), s + 1);
    }
    for (int s = 0; s < 8; s++) {
      x.show(s, s % 2);
      Edges.is("a thing", x.holds(s), 10 + s % 2);
      Edges.is("as many in use", x.status(10), 8);
    }
    for (int s = 0; s < 8; s++) {
      x.show(s, -1);
      Edges.is("nothing again", x.holds(s), -1);
      Edges.is("less in use", x.status(10), 7 - s);
    }
    Edges.bounds(Edges::rich, "row in shelf", (y, v) -> y.row(v, 0, 1), 0, 7);
    Edges.bounds(Edges::rich, "a thing in shelf", (y, v) -> y.show(v, 0), 0, 7);
    Edges.bounds(Edges::rich, "nothing in shelf", (y, v) -> y.show(v, -1), 0, 7);
  }

  private static void rows() {
    Edges.of(PART, "A ROW has a SORT (0 bytes, 1 shorts, 2 ints, 3 longs, 4 booleans) and 0 to 40 elements (0, or not so, at first);");
    Edges.bounds(Edges::rich, "sort", (x, v) -> x.row(5, v, 1), 0, 4);
    Edges.bounds(Edges::rich, "elements", (x, v) -> x.row(5, 0, v), 0, 40);
    for (int sort = 0; sort <= 4; sort++) {
      for (int n : new int[] {0, 1, 39, 40}) {
        final int told = sort;
        Supplier<EndsInFive> fresh = () -> {
          EndsInFive x = Edges.rich();
          x.row(0, told, n);
          return x;
        };
        EndsInFive x = fresh.get();
        Edges.is("sort", x.holds(0), sort);
        for (int i = 0; i < 41; i++) {
          Edges.is("0 at first", x.element(0, i), 0);
        }
        Edges.bounds(fresh, "element of " + n, (y, v) -> y.set(0, v, 5), 0, n - 1);
      }
    }
  }

  private static void lowestBits() {
    Edges.of(PART, "what is put in keeps its lowest bits (of booleans: whether it is not 0); told they are numbers (1, 0).");
    long[][] due = {
      {0, 0, 0, 0, 0, 0}, {1, 1, 1, 1, 1, 1}, {-1, -1, -1, -1, -1, 1}, {2, 2, 2, 2, 2, 1}, {127, 127, 127, 127, 127, 1},
      {128, -128, 128, 128, 128, 1}, {-128, -128, -128, -128, -128, 1}, {-129, 127, -129, -129, -129, 1},
      {255, -1, 255, 255, 255, 1}, {256, 0, 256, 256, 256, 1}, {32767, -1, 32767, 32767, 32767, 1},
      {32768, 0, -32768, 32768, 32768, 1}, {-32768, 0, -32768, -32768, -32768, 1}, {-32769, -1, 32767, -32769, -32769, 1},
      {65535, -1, -1, 65535, 65535, 1}, {65536, 0, 0, 65536, 65536, 1},
      {2147483647L, -1, -1, 2147483647L, 2147483647L, 1}, {2147483648L, 0, 0, -2147483648L, 2147483648L, 1},
      {-2147483648L, 0, 0, -2147483648L, -2147483648L, 1}, {-2147483649L, -1, -1, 2147483647L, -2147483649L, 1},
      {4294967295L, -1, -1, -1, 4294967295L, 1}, {4294967296L, 0, 0, 0, 4294967296L, 1},
      {Long.MAX_VALUE, -1, -1, -1, Long.MAX_VALUE, 1}, {Long.MIN_VALUE, 0, 0, 0, Long.MIN_VALUE, 1},
    };
    for (long[] d : due) {
      for (int sort = 0; sort <= 4; sort++) {
        EndsInFive x = new EndsInFive();
        x.row(7, sort, 40);
        Edges.is("set", x.set(7, 39, d[0]), 1);
        Edges.is(d[0] + " in a row of sort " + sort, x.element(7, 39), d[1 + sort]);
        Edges.is("the one ahead", x.element(7, 38), 0);
        x.row(6, sort, 1);
        x.copy(7, 6, 39, 0, 1);
        Edges.is("copied", x.element(6, 0), d[1 + sort]);
        x.set(7, 39, 0);
        Edges.is("0 again", x.element(7, 39), 0);
      }
    }
  }

  // ---- refusals

  private static void refusalsAnswer() {
    Edges.of("REFUSALS", "REFUSALS (the call answers the number; nothing changes but how many there were; the first that fits as "
        + "each line has them):");
    EndsInFive x = Due.stall("thing 0 5 0;buyer 1;buyer 1;buyer 1;buyer 1");
    x.show(1, 0);
    for (int k = 1; k <= 40; k++) {
      Edges.is("bad", x.set(8, 0, 0), -2);
      Edges.is("other", x.set(1, 0, 0), -3);
      Edges.is("nothing", x.set(0, 0, 0), -4);
      Edges.is("stuck", x.slips(20), -5);
      Edges.is("full", x.buyer(0), -6);
      for (int what = 12; what <= 16; what++) {
        Edges.is("so many", x.status(what), k);
      }
    }
    Edges.is("bad ahead of full", x.buyer(-1), -2);
    Edges.is("bad ahead of stuck", x.slips(0), -2);
    Edges.is("bad ahead of other", x.says(1, 6), -2);
    Edges.is("bad ahead of nothing", x.says(0, 6), -2);
    Edges.is("other ahead of bad", x.set(1, -1, 0), -3);
    Edges.is("nothing ahead of bad", x.set(0, -1, 0), -4);
    Edges.is("one number each", x.status(12), 44);
  }

  private static void bad() {
    Edges.of("REFUSALS", "-2 BAD a number that may not be, nothing of that number.");
    Edges.Made[] ofBuyer = {EndsInFive::worth, EndsInFive::plan, EndsInFive::till, EndsInFive::dearest, EndsInFive::go,
      EndsInFive::five, EndsInFive::plays, (x, v) -> x.mean(v, 1), (x, v) -> x.purse(v, 1), (x, v) -> x.likes(v, 0, 1),
      (x, v) -> x.buyerOf(v, 0), (x, v) -> x.booked(1, 0, v)};
    Edges.Made[] ofThing = {EndsInFive::chain, EndsInFive::fondest, (x, v) -> x.thingOf(v, 0), (x, v) -> x.likes(0, v, 1)};
    Edges.Made[] ofShelf = {(x, v) -> x.row(v, 0, 0), (x, v) -> x.set(v, 0, 0), (x, v) -> x.copy(v, 1, 0, 0, 0),
      (x, v) -> x.copy(1, v, 0, 0, 0), (x, v) -> x.show(v, 0), (x, v) -> x.says(v, 0), (x, v) -> x.judge(v, 0),
      (x, v) -> x.won(v, 0), (x, v) -> x.booked(v, 0, 0)};
    for (int i = 0; i < ofBuyer.length; i++) {
      Edges.bounds(EdgesInTruth::rowsAndPurses, "buyer, call " + i, ofBuyer[i], 0, 2);
      Edges.noneMayBe(() -> Due.stall("thing 0 5 0"), "no buyers, call " + i, ofBuyer[i]);
    }
    for (int i = 0; i < ofThing.length; i++) {
      Edges.bounds(Edges::rich, "thing, call " + i, ofThing[i], 0, 5);
      Edges.noneMayBe(() -> Due.stall("buyer 5"), "no things, call " + i, ofThing[i]);
    }
    for (int i = 0; i < ofShelf.length; i++) {
      for (int shelf : new int[] {-1, 8, Edges.MIN, Edges.MAX}) {
        Edges.Made made = ofShelf[i];
        Edges.refused(Edges::rich, "shelf " + shelf + ", call " + i, x -> made.on(x, shelf), Edges.BAD);
      }
    }
    Edges.bounds(EndsInFive::new, "show, of no things", (x, v) -> x.show(0, v), -1, -1);
  }

  private static EndsInFive rowsAndPurses() {
    EndsInFive x = Edges.rich();
    for (int b = 0; b < 3; b++) {
      x.purse(b, 500);
    }
    return x;
  }

  private static void other() {
    Edges.of("REFUSALS", "-3 OTHER: a SHELF that holds another thing than is wanted.");
    Edges.Call[] wantRows = {x -> x.set(2, 0, 1), x -> x.copy(2, 0, 0, 0, 0), x -> x.copy(0, 2, 0, 0, 0), x -> x.copy(2, 2, 0, 0, 0),
      x -> x.judge(2, 0), x -> x.won(2, 0), x -> x.booked(2, 0, 0)};
    for (int i = 0; i < wantRows.length; i++) {
      Edges.refused(Edges::rich, "a thing where a row is wanted, call " + i, wantRows[i], Edges.OTHER);
    }
    for (int kind = 0; kind <= 5; kind++) {
      final int told = kind;
      Edges.refused(Edges::rich, "a row where a thing is wanted, kind " + kind, x -> x.says(0, told), Edges.OTHER);
    }
  }

  private static void nothing() {
    Edges.of("REFUSALS", "-4 NOTHING: a SHELF that holds NOTHING.");
    for (int s = 4; s < 8; s++) {
      final int shelf = s;
      Edges.Call[] calls = {x -> x.set(shelf, 0, 1), x -> x.copy(shelf, 0, 0, 0, 0), x -> x.copy(0, shelf, 0, 0, 0),
        x -> x.copy(shelf, shelf, 0, 0, 0), x -> x.judge(shelf, 0), x -> x.won(shelf, 0), x -> x.booked(shelf, 0, 0),
        x -> x.says(shelf, 0)};
      for (int i = 0; i < calls.length; i++) {
        Edges.refused(Edges::rich, "shelf " + s + ", call " + i, calls[i], Edges.NOTHING);
      }
    }
    EndsInFive x = Edges.rich();
    x.show(0, -1);
    Edges.is("a row that was taken away", x.set(0, 0, 1), -4);
    x.show(2, -1);
    Edges.is("a thing that was taken away", x.says(2, 0), -4);
  }

  private static void stuck() {
    Edges.of("REFUSALS", "-5 STUCK: it can't be as things stand.");
    Edges.Call[] calls = {x -> x.slips(30), x -> x.rule(3), x -> x.thing(0, 3, 0), x -> x.thing(0, 15, 0), x -> x.wins(1),
      x -> x.wins(15), x -> x.left(0), x -> x.won(0, 1), x -> x.booked(0, 1, 0)};
    for (int i = 0; i < calls.length; i++) {
      Edges.refused(Edges::rich, "call " + i, calls[i], Edges.STUCK);
    }
    Edges.Call[] ofNone = {EndsInFive::poorest, EndsInFive::oldest, EndsInFive::back, x -> x.guess(1, 0)};
    for (int i = 0; i < ofNone.length; i++) {
      Edges.refused(() -> Due.stall("slips 1"), "of none, call " + i, ofNone[i], Edges.STUCK);
    }
    Edges.refused(() -> Due.stall("thing 0 5 0"), "no buyers", x -> x.fondest(0), Edges.STUCK);
    Edges.refused(() -> Due.stall("buyer 9"), "purse", x -> x.go(0), Edges.STUCK);
    Edges.refused(() -> Due.stall("buyer 39"), "purse", x -> x.five(0), Edges.STUCK);
  }

  private static void full() {
    Edges.of("REFUSALS", "-6 FULL.");
    Supplier<EndsInFive> full = () -> {
      EndsInFive x = Due.stall("rule 2;buyer 1;buyer 1;buyer 1;buyer 1;thing 0 2 0;thing 0 4 0;thing 0 6 0;thing 0 8 0;"
          + "thing 0 10 0;thing 0 12 0;thing 0 14 0;thing 0 16 0");
      Due.feed(x, "price 5" + " ".repeat(243));
      return x;
    };
    Edges.refused(full, "buyers", x -> x.buyer(0), Edges.FULL);
    Edges.refused(full, "things", x -> x.thing(0, 18, 0), Edges.FULL);
    Edges.refused(full, "the tape", x -> x.feed(0), Edges.FULL);
  }

  private static void far() {
    Edges.of("REFUSALS", "(Calls that tell what may be below 0 answer -10000000 and the number.)");
    Edges.bounds(Edges::rich, "atOnce", EndsInFive::atOnce, 0, 2, Edges.FAR_BAD);
    Edges.bounds(Edges::rich, "all", EndsInFive::all, 0, 2, Edges.FAR_BAD);
    Edges.refused(EndsInFive::new, "no buyers", x -> x.atOnce(0), -10000002);
    Edges.refused(EndsInFive::new, "no buyers", x -> x.all(0), -10000002);
  }

  /** "An object is used for at most 512 calls after it has been made": so the 512th answers as the first. */
  private static void lastCall() {
    EndsInFive x = new EndsInFive();
    x.purse(x.buyer(0), 9999);
    for (int calls = 2; calls + 3 <= 512; calls += 3) {
      x.seed(calls);
      Edges.is("call " + (calls + 2), x.go(0), draw(calls, 20) + 1);
      x.slips(20);
    }
    EndsInFive y = new EndsInFive();
    for (int k = 1; k <= 511; k++) {
      y.seed(k);
    }
    Edges.is("the 512th call", y.seed(0), 511);
    EndsInFive z = new EndsInFive();
    for (int k = 1; k <= 511; k++) {
      z.buyer(-1);
    }
    Edges.is("the 512th call", z.status(12), 511);
  }
}
