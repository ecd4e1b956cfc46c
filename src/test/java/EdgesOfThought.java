import java.util.function.Supplier;

/** The edges of section 3, as far as it is in thought: plan, till, mean, all, takings, full, left, chain. */
final class EdgesOfThought {
  private static final String PART = "WHAT COMES OF IT";

  private EdgesOfThought() {
  }

  static void run() {
    inThought();
    thoughtBehindThought();
    planWhateverThePurse();
    planOfNone();
    planAboutNothing();
    planOfMany();
    planOfWhatIsHeld();
    till();
    tillOfNone();
    atOnce();
    meanOfNone();
    mean();
    all();
    takings();
    takingsByPurses();
    takingsBySlips();
    bestPrice();
    full();
    guess();
    suspect();
    sure();
    left();
    leftOfNone();
    book();
    wonByABook();
    chain();
    chainOfHeld();
    chainOfNone();
  }

  private static Supplier<EndsInFive> with(String text) {
    return () -> Due.stall(text);
  }

  /** Eight things of a kind, all that is in. */
  private static EndsInFive eightAlone(int kind, int a) {
    StringBuilder text = new StringBuilder("slips 16;rule 2;price 1;buyer 0");
    for (int t = 0; t < 8; t++) {
      text.append(";thing ").append(kind).append(' ').append(2 * t + 2).append(' ').append(a);
      text.append(";out ").append(2 * t + 1);
    }
    EndsInFive x = Due.stall(text.toString());
    for (int t = 0; t < 8; t++) {
      x.likes(0, t, 999);
    }
    return x;
  }

  private static void inThought() {
    Edges.of(PART, "(in thought, no one else buys; nothing is changed)");
    Edges.Call[] calls = {x -> x.plan(0), x -> x.till(0), x -> x.atOnce(0), x -> x.mean(0, 8), x -> x.all(0),
      x -> x.takings(5), EndsInFive::bestPrice, EndsInFive::full, x -> x.guess(4, 0), x -> x.suspect(5, 2),
      x -> x.sure(5, 700000), x -> x.chain(5), x -> x.judge(0, 1), x -> x.worth(0), x -> x.wins(12), x -> x.dearest(2),
      x -> x.fondest(4), EndsInFive::envy, EndsInFive::poorest, EndsInFive::oldest, EndsInFive::drawable};
    for (int i = 0; i < calls.length; i++) {
      Edges.tells(Edges::rich, "call " + i, calls[i], calls[i].on(Edges.rich()));
    }
    String one = "slips 12;rule 3;price 2;thing 0 3 0;thing 4 6 1;buyer 9;likes 0 0 70;likes 0 1 90";
    String others = one + ";buyer 9999;buyer 9999;likes 1 0 999;likes 2 1 999";
    Edges.is("a plan is told", Due.stall(one).plan(0) > 0 ? 1 : 0, 1);
    Edges.is("no one else buys", Due.stall(others).plan(0), Due.stall(one).plan(0));
    Edges.is("no one else buys", Due.stall(others).mean(0, 8), Due.stall(one).mean(0, 8));
  }

  /** A stall that is asked again and again, as its slips go, tells the same as one that wasn't asked before. */
  private static void thoughtBehindThought() {
    String text = "slips 24;rule 2;price 3;thing 4 2 3;thing 3 4 0;thing 5 6 1;thing 0 8 0;thing 3 10 0;thing 4 12 2;buyer 0;buyer 0;"
        + "likes 0 0 90;likes 0 2 200;likes 0 3 40;likes 1 1 60;likes 1 5 300";
    EndsInFive x = Due.stall(text);
    int[] order = {1, 24, 3, 4, 22, 5, 7, 20, 9, 11, 18, 8, 13, 15, 16, 2, 17, 19, 12, 21, 23, 14};
    for (int k = 0; k <= order.length; k++) {
      for (int b = 0; b < 2; b++) {
        for (int m = 8; m >= 0; m -= 4) {
          Edges.is("mean of " + m + " behind " + k, x.mean(b, m), again(text, order, k).mean(b, m));
          Edges.is("plan behind " + k, x.plan(b), again(text, order, k).plan(b));
        }
        Edges.is("till behind " + k, x.till(b), again(text, order, k).till(b));
      }
      for (int t = 0; t < 6; t++) {
        Edges.is("chain behind " + k, x.chain(t), again(text, order, k).chain(t));
        Edges.is("at once behind " + k, x.atOnce(t % 2), again(text, order, k).atOnce(t % 2));
      }
      if (k < order.length) {
        Edges.draw(x, order[k]);
      }
    }
  }

  private static EndsInFive again(String text, int[] order, int count) {
    EndsInFive x = Due.stall(text);
    Edges.draw(x, java.util.Arrays.copyOf(order, count));
    return x;
  }

  private static void planWhateverThePurse() {
    Edges.of(PART, "PLAN of a BUYER (whatever their PURSE):");
    for (int purse : new int[] {0, 9, 10, 9999}) {
      Edges.tells(with("slips 2;rule 2;thing 0 2 0;likes 0 0 999".replace(";likes", ";buyer " + purse + ";likes")),
          "purse " + purse, x -> x.plan(0), 999000 - 15000);
    }
  }

  private static void planOfNone() {
    Edges.of(PART, "VALUE of how the stall is: 0, if no SLIP can be DRAWN;");
    Edges.tells(with("slips 1;buyer 9;out 1"), "none is in", x -> x.plan(0), 0);
    Edges.tells(() -> eightAlone(4, 1), "eight are held", x -> x.plan(0), 0);
    Edges.tells(() -> eightAlone(5, 1), "eight of sixteen are sunk and held", x -> x.plan(0), 0);
    Edges.tells(with("slips 2;rule 2;thing 4 2 1;buyer 9;likes 0 0 999"), "one blank, and it is held for two goes",
        x -> x.plan(0), 0);
    Edges.tells(with("slips 1;rule 2;buyer 9"), "a blank alone", x -> x.plan(0), 0);
  }

  private static void planAboutNothing() {
    Edges.of(PART, "else the greater of 0 and:");
    for (int like = 0; like <= 40; like++) {
      int due = Math.max(0, (like - 10) * 1000);
      Edges.is("one alone, liked by " + like, Due.stall("slips 2;rule 2;thing 0 2 0;out 1;buyer 0;likes 0 0 " + like).plan(0),
          due);
    }
    String one = "slips 2;rule 2;thing 0 2 0;buyer 0;likes 0 0 ";
    Edges.tells(with(one + "14"), "less than even", x -> x.plan(0), 0);
    Edges.tells(with(one + "15"), "even", x -> x.plan(0), 0);
    Edges.tells(with(one + "16"), "more than even", x -> x.plan(0), 1000);
    Edges.tells(with(one + "999;price 99"), "dear", x -> x.plan(0), (999000 + 900000) / 2 - 99000);
    Edges.tells(with("slips 10;rule 2;price 3;buyer 99;thing 2 2 0;thing 5 4 1;thing 3 6 0;likes 0 0 9;likes 0 1 7;likes 0 2 1"),
        "a thousandth", x -> x.plan(0), 1);
  }

  /** One plain thing among blanks, as the document's line reads for it. */
  private static long planAmong(int blanks, int like, int price) {
    long value = 0;
    for (int b = 0; b <= blanks; b++) {
      value = Math.max(0, (1000L * like + b * value) / (b + 1) - 1000L * price);
    }
    return value;
  }

  private static void planOfMany() {
    Edges.of(PART, "for all SLIPS that can be DRAWN 1000 times what they LIKE of what is WON by it, and VALUE behind it, "
        + "all together, by how many can be (cut), less 1000 times PRICE.");
    for (int n = 2; n <= 60; n++) {
      for (int price : new int[] {1, 10, 33, 98, 99}) {
        for (int like : new int[] {0, 1, 500, 999}) {
          EndsInFive x = Due.stall("slips " + n + ";rule 2;price " + price + ";thing 0 2 0;buyer 0;likes 0 0 " + like);
          Edges.is(like + " among " + n + " for " + price, x.plan(0), planAmong(n - 1, like, price));
        }
      }
    }
    Edges.tells(() -> eightAlone(0, 0), "eight for sure", x -> x.plan(0), 8 * 998000);
    Edges.tells(() -> eightAlone(4, 0), "eight that aren't held any more", x -> x.plan(0), 8 * 998000);
    Edges.tells(() -> eightAlone(5, 0), "eight of sixteen", x -> x.plan(0), 8 * 998000);
    Edges.tells(() -> eightAlone(3, 0), "eight whiskies", x -> x.plan(0), 8 * 998000);
  }

  private static void planOfWhatIsHeld() {
    for (int a = 0; a <= 9; a++) {
      int blanks = a + a;
      String text = "rule 2;thing 4 2 " + a + ";buyer 0;likes 0 0 999";
      Edges.tells(with("slips " + (blanks + 2) + ";" + text + ";out 1"), "just as many blanks", x -> x.plan(0),
          999000 - 10000 * (blanks + 1));
      if (a > 0) {
        Edges.tells(with("slips " + (blanks + 1) + ";" + text + ";out 1"), "a blank too few", x -> x.plan(0), 0);
      }
    }
    for (int n = 2; n <= 60; n++) {
      int away = n - n / 2;
      EndsInFive x = Due.stall("slips " + n + ";rule 2;price 1;thing 5 2 0;buyer 0;likes 0 0 999");
      Edges.is("sunk, of " + n, x.plan(0), planAmong(n - 1 - away, 999, 1) - 1000L * away);
    }
    EndsInFive y = Due.stall("slips 4;rule 2;thing 3 2 0;thing 4 4 9;out 1;out 3;buyer 0;likes 0 1 100");
    Edges.is("brought", y.plan(0), 90000);
  }

  /** Blanks, a plain thing, and seven that sink until none of the blanks is in. */
  private static EndsInFive sinking(int blanks) {
    StringBuilder text = new StringBuilder("slips 16;rule 2;price 1;buyer 0;thing 0 2 0;likes 0 0 4");
    for (int slip = 4; slip <= 16; slip += 2) {
      text.append(";thing 5 ").append(slip).append(" 0");
    }
    for (int slip = 1; slip <= 16 - 2 * blanks; slip += 2) {
      text.append(";out ").append(slip);
    }
    return Due.stall(text.toString());
  }

  private static void till() {
    Edges.of(PART, "TILL: how many blanks, one after the other from now on, behind which VALUE is 0 first (0: now);");
    int[] plans = {0, 1000, 1000, 750, 400, 0, 0, 0, 0};
    int[] due = {0, 1, 2, 3, 4, 0, 0, 0, 0};
    for (int b = 0; b <= 8; b++) {
      final int blanks = b;
      Edges.tells(() -> sinking(blanks), "plan of " + b + " blanks", x -> x.plan(0), plans[b]);
      Edges.tells(() -> sinking(blanks), b + " blanks", x -> x.till(0), due[b]);
    }
    Supplier<EndsInFive> brought = () -> {
      EndsInFive x = Due.stall("slips 16;rule 2;price 1;thing 3 2 0;thing 2 4 0;thing 0 6 0;thing 4 8 2;thing 4 10 2;"
          + "thing 4 12 2;thing 4 14 2;thing 4 16 2;buyer 0;likes 0 2 3;out 5;out 7;out 9;out 11;out 13;out 15");
      Edges.draw(x, 2, 1);
      return x;
    };
    Edges.tells(brought, "plan: a blank, and one that came of a whisky", x -> x.plan(0), 333);
    Edges.tells(brought, "behind both of them", x -> x.till(0), 2);
    Edges.tells(with("buyer 0"), "nothing to win", x -> x.till(0), 0);
    Edges.tells(with("slips 2;rule 2;thing 0 2 0;buyer 0;likes 0 0 15"), "even", x -> x.till(0), 0);
    Edges.tells(() -> eightAlone(4, 1), "none can be drawn", x -> x.till(0), 0);
  }

  private static void tillOfNone() {
    Edges.of(PART, "60, if no blank is IN any more ahead of that.");
    Edges.tells(with("slips 2;rule 2;thing 0 2 0;out 1;buyer 0;likes 0 0 11"), "no blank is in", x -> x.till(0), 60);
    Edges.tells(with("slips 2;rule 2;thing 0 2 0;buyer 0;likes 0 0 16"), "one", x -> x.till(0), 60);
    Edges.tells(with("slips 60;rule 10;price 1;thing 0 60 0;buyer 0;likes 0 0 999"), "fifty-nine", x -> x.till(0), 60);
    Edges.tells(() -> eightAlone(0, 0), "eight things alone", x -> x.till(0), 60);
    Edges.tells(with("slips 19;rule 2;thing 4 2 9;buyer 0;likes 0 0 999"), "eighteen, for what is held", x -> x.till(0), 60);
  }

  /** MEAN for one plain thing among blanks, as the document's line reads for it. */
  private static long meanAmong(int blanks, int like, int m) {
    if (m == 0 || blanks < 0) {
      return 0;
    }
    return (1000L * like + blanks * meanAmong(blanks - 1, like, m - 1)) / (blanks + 1);
  }

  private static void atOnce() {
    Edges.of(PART, "AT ONCE to a BUYER: MEAN of 5 goes, less 1000 times FIVE;");
    for (int five : new int[] {1, 40, 495}) {
      Edges.tells(with("buyer 0;price 1 five " + five), "nothing to win for " + five, x -> x.atOnce(0), -1000 * five);
      Edges.tells(with("slips 1;out 1;buyer 0;price 1 five " + five), "none is in", x -> x.atOnce(0), -1000 * five);
    }
    for (int n = 2; n <= 60; n++) {
      EndsInFive x = Due.stall("slips " + n + ";rule 2;price 99 five 41;thing 0 2 0;buyer 0;likes 0 0 999");
      Edges.is("five of " + n, x.atOnce(0), meanAmong(n - 1, 999, 5) - 41000);
      Edges.is("as the mean", x.atOnce(0), x.mean(0, 5) - 41000);
    }
    Edges.tells(with("slips 5;buyer 0;thing 0 5 0;likes 0 0 40"), "five of five: even", x -> x.atOnce(0), 0);
    Edges.tells(with("slips 6;rule 6;buyer 0;thing 4 6 2;likes 0 0 40"), "the fifth go may win it", x -> x.atOnce(0), -20000);
    Edges.tells(with("slips 6;rule 6;buyer 0;thing 4 6 3;likes 0 0 40"), "the seventh might", x -> x.atOnce(0), -40000);
    EndsInFive y = eightAlone(0, 0);
    Edges.is("five of eight", y.atOnce(0), 5 * 999000 - 40000);
  }

  private static void meanOfNone() {
    Edges.of(PART, "MEAN of m goes: 0, if m is 0, or no SLIP can be DRAWN;");
    Edges.tells(() -> eightAlone(0, 0), "m 0", x -> x.mean(0, 0), 0);
    for (int m = 0; m <= 8; m++) {
      final int goes = m;
      Edges.tells(with("slips 1;out 1;buyer 0"), "none is in", x -> x.mean(0, goes), 0);
      Edges.tells(() -> eightAlone(4, 1), "eight are held", x -> x.mean(0, goes), 0);
      Edges.tells(() -> eightAlone(0, 0), m + " of eight", x -> x.mean(0, goes), 999000 * goes);
    }
    Edges.bounds(Edges::rich, "mean of m", (x, v) -> x.mean(0, v), 0, 8);
  }

  private static void mean() {
    Edges.of(PART, "else for all SLIPS that can be 1000 times what they LIKE of what is WON by it, and MEAN of m less 1 behind it, "
        + "all together, by how many can be (cut).");
    for (int n = 2; n <= 60; n++) {
      EndsInFive x = Due.stall("slips " + n + ";rule 2;price 99;thing 0 2 0;buyer 0;likes 0 0 " + (1000 - n));
      for (int m = 0; m <= 8; m++) {
        Edges.is(m + " of " + n, x.mean(0, m), meanAmong(n - 1, 1000 - n, m));
      }
    }
    for (int a = 0; a <= 4; a++) {
      EndsInFive x = Due.stall("slips 10;rule 10;thing 4 10 " + a + ";buyer 0;likes 0 0 100");
      for (int m = 0; m <= 8; m++) {
        Edges.is("held by " + a + ", " + m + " goes", x.mean(0, m), m <= 2 * a ? 0 : meanAmong(9 - 2 * a, 100, m - 2 * a));
      }
    }
    for (int n = 2; n <= 14; n++) {
      int away = n - n / 2;
      EndsInFive x = Due.stall("slips " + n + ";rule 2;thing 5 2 0;buyer 0;likes 0 0 100");
      for (int m = 0; m <= 8; m++) {
        Edges.is("sunk of " + n + ", " + m + " goes", x.mean(0, m), m <= away ? 0 : meanAmong(n - 1 - away, 100, m - away));
      }
    }
  }

  private static void all() {
    Edges.of(PART, "ALL: what they LIKE of all that STANDS, less PRICE for each SLIP that is IN.");
    Edges.tells(with("slips 60;price 99;buyer 0"), "the least", x -> x.all(0), -5940);
    Edges.tells(() -> eightAlone(0, 0), "the greatest", x -> x.all(0), 8 * 999 - 8);
    Edges.tells(() -> eightAlone(5, 9), "held or not", x -> x.all(0), 8 * 999 - 8);
    Edges.tells(with("slips 1;out 1;buyer 0"), "none is in", x -> x.all(0), 0);
    Edges.tells(with("thing 0 5 0;buyer 0;likes 0 0 200"), "even", x -> x.all(0), 0);
    Edges.tells(with("thing 0 5 0;buyer 0;likes 0 0 199"), "one less", x -> x.all(0), -1);
    EndsInFive x = Due.stall("slips 10;thing 0 5 0;thing 0 10 0;buyer 0;likes 0 0 300;likes 0 1 7");
    Edges.draw(x, 5, 1);
    Edges.is("what was won counts no more, nor what is out", x.all(0), 7 - 80);
  }

  private static void takings() {
    Edges.of(PART, "TAKINGS at a price: each BUYER to whom a go is WORTH 1000 times that price at least");
    for (int price = 1; price <= 99; price++) {
      EndsInFive x = Due.stall("slips 2;rule 2;thing 0 2 0;buyer 9999;likes 0 0 " + 2 * price);
      Edges.is("worth just " + price, x.takings(price), 2 * price);
      Edges.is("worth less than one more", price == 99 ? 0 : x.takings(price + 1), 0);
      EndsInFive y = Due.stall("slips 2;rule 2;thing 0 2 0;buyer 9999;likes 0 0 " + (2 * price - 1));
      Edges.is("worth half a piece less than " + price, y.takings(price), 0);
    }
    Edges.tells(EndsInFive::new, "no buyers", x -> x.takings(1), 0);
    Edges.tells(with("buyer 9999"), "nothing to win", x -> x.takings(1), 0);
    Edges.bounds(Edges::rich, "takings at", EndsInFive::takings, 1, 99);
    String two = "slips 11;rule 2;thing 0 2 0;thing 0 4 0;buyer 999;likes 0 0 999;likes 0 1 ";
    Edges.tells(with(two + "45"), "94909 is less than 95000", x -> x.takings(95), 0);
    Edges.tells(with(two + "46"), "95000", x -> x.takings(95), 950);
    Edges.tells(with("slips 3;rule 2;thing 0 2 0;buyer 99;likes 0 0 8"), "cut: 2666", x -> x.takings(2), 6);
    Edges.tells(with("slips 3;rule 2;thing 0 2 0;buyer 99;likes 0 0 8"), "2666 is less than 3000", x -> x.takings(3), 0);
  }

  private static void takingsByPurses() {
    Edges.of(PART, "buys as many as their PURSE is good for, by numbers,");
    for (int purse = 0; purse <= 40; purse++) {
      EndsInFive x = Due.stall("slips 60;rule 10;thing 0 60 0;likes 0 0 999".replace(";likes", ";buyer " + purse + ";likes"));
      Edges.is("purse " + purse + " at 7", x.takings(7), 7 * (purse / 7));
      Edges.is("the price of a go is no matter", x.takings(16), 16 * (purse / 16));
    }
    Supplier<EndsInFive> four = with("slips 60;rule 10;thing 0 60 0;buyer 4;buyer 5;buyer 9;buyer 11;"
        + "likes 0 0 999;likes 1 0 999;likes 2 0 299;likes 3 0 300");
    Edges.tells(four, "one for 5, none for 4, the third doesn't want it, two for 11", x -> x.takings(5), 15);
    Edges.tells(four, "all want it at 4", x -> x.takings(4), 4 * (1 + 1 + 2 + 2));
  }

  private static void takingsBySlips() {
    Edges.of(PART, "until as many are bought as SLIPS are IN: all prices together.");
    String things = "slips 4;rule 2;thing 0 2 0;thing 0 4 0;";
    String likes = ";likes 0 0 80;likes 1 0 80;likes 2 0 80";
    Edges.tells(with(things + "buyer 20;buyer 10;buyer 5" + likes), "three of four", x -> x.takings(10), 30);
    Edges.tells(with(things + "buyer 20;buyer 10;buyer 10" + likes), "four of four", x -> x.takings(10), 40);
    Edges.tells(with(things + "buyer 20;buyer 10;buyer 20" + likes), "the third gets one of two", x -> x.takings(10), 40);
    Edges.tells(with(things + "buyer 50;buyer 10;buyer 20" + likes), "the first gets all", x -> x.takings(10), 40);
    Edges.tells(with(things + "buyer 9999;buyer 9999;buyer 9999" + likes), "at 20", x -> x.takings(20), 80);
    Edges.tells(with(things + "buyer 9999;buyer 9999;buyer 9999" + likes + ";out 1;out 3"), "two are in", x -> x.takings(20), 40);
    Edges.tells(with("slips 60;rule 10;thing 0 60 0;buyer 9999;likes 0 0 999"), "sixty", x -> x.takings(16), 960);
    Edges.tells(with("slips 1;out 1;buyer 9999"), "none is in", x -> x.takings(1), 0);
    Edges.tells(with("slips 4;rule 2;thing 0 2 0;thing 4 4 9;out 1;out 3;buyer 9999;likes 0 0 60"), "one is held, yet it is in",
        x -> x.takings(60), 120);
  }

  private static void bestPrice() {
    Edges.of(PART, "BEST PRICE: of 5, 10, .. 95 that with most TAKINGS, of several the least.");
    for (int best = 5; best <= 95; best += 5) {
      for (int over : new int[] {0, 1, 4}) {
        EndsInFive x = Due.stall("slips 2;rule 2;thing 0 2 0;buyer 9999;likes 0 0 " + 2 * (best + over));
        Edges.is("worth " + (best + over), x.bestPrice(), best);
      }
    }
    Edges.tells(EndsInFive::new, "nothing is taken at any", EndsInFive::bestPrice, 5);
    Edges.tells(with("slips 2;rule 2;thing 0 2 0;buyer 9999;likes 0 0 8"), "worth 4: at 5 nothing is taken", EndsInFive::bestPrice, 5);
    Edges.tells(with("slips 2;rule 2;thing 0 2 0;buyer 9999;likes 0 0 999"), "worth more than all", EndsInFive::bestPrice, 95);
    Edges.tells(with("slips 4;rule 4;thing 0 4 0;buyer 20;likes 0 0 80"), "four at 5, two at 10, one at 20", EndsInFive::bestPrice, 5);
    Edges.tells(with("slips 2;rule 2;thing 0 2 0;buyer 20;likes 0 0 80"), "two at 10, one at 20", EndsInFive::bestPrice, 10);
    Edges.tells(with("slips 2;rule 2;thing 0 2 0;out 1;buyer 20;likes 0 0 80"), "one at 20", EndsInFive::bestPrice, 20);
    Edges.tells(with("slips 2;rule 2;thing 0 2 0;buyer 19;likes 0 0 80"), "one at 15", EndsInFive::bestPrice, 15);
  }

  private static EndsInFive drum(int n, int in) {
    EndsInFive x = new EndsInFive();
    x.slips(n);
    x.price(0, 1);
    x.buyer(9999);
    for (int k = n; k > in; k--) {
      x.go(0);
    }
    return x;
  }

  /** Quarters by counting up: so many of them are no less than what is in. */
  private static int quarters(int n, int in) {
    int quarters = 0;
    while (quarters * n < 4 * in) {
      quarters++;
    }
    return quarters;
  }

  private static void full() {
    Edges.of(PART, "FULL in quarters (0 to 4): 4 times how many SLIPS are IN by n (rounded up).");
    for (int n = 1; n <= 60; n++) {
      EndsInFive x = drum(n, n);
      for (int in = n; in >= 0; in--) {
        Edges.is(in + " of " + n, x.full(), quarters(n, in));
        x.go(0);
      }
    }
    Edges.tells(() -> drum(4, 4), "four of four", EndsInFive::full, 4);
    Edges.tells(() -> drum(4, 3), "three of four", EndsInFive::full, 3);
    Edges.tells(() -> drum(60, 1), "one of sixty", EndsInFive::full, 1);
    Edges.tells(() -> drum(60, 15), "fifteen of sixty", EndsInFive::full, 1);
    Edges.tells(() -> drum(60, 16), "sixteen of sixty", EndsInFive::full, 2);
    Edges.tells(() -> drum(1, 0), "none", EndsInFive::full, 0);
  }

  private static void guess() {
    Edges.of(PART, "GUESS by it: the least number of SLIPS with which it is so full (what 0), the greatest (1).");
    for (int n = 1; n <= 60; n++) {
      EndsInFive x = drum(n, n / 2);
      for (int q = 0; q <= 4; q++) {
        int least = Edges.STUCK;
        int greatest = Edges.STUCK;
        for (int in = 0; in <= n; in++) {
          boolean fits = quarters(n, in) == q;
          least = fits && least < 0 ? in : least;
          greatest = fits ? in : greatest;
        }
        Edges.is("least of " + q + " quarters of " + n, x.guess(q, 0), least);
        Edges.is("greatest of " + q + " quarters of " + n, x.guess(q, 1), greatest);
      }
    }
    Edges.tells(() -> drum(60, 60), "one quarter at least", x -> x.guess(1, 0), 1);
    Edges.tells(() -> drum(60, 60), "one quarter at most", x -> x.guess(1, 1), 15);
    Edges.tells(() -> drum(60, 0), "nothing", x -> x.guess(0, 1), 0);
    Edges.tells(() -> drum(60, 0), "all", x -> x.guess(4, 1), 60);
    Edges.bounds(() -> drum(60, 7), "quarters", (x, v) -> x.guess(v, 0), 0, 4);
    Edges.bounds(() -> drum(60, 7), "what", (x, v) -> x.guess(2, v), 0, 1);
  }

  private static void suspect() {
    Edges.of(PART, "SUSPECT (k of m SLIPS were drawn, and none was a told one; m 1 to 60): 1,000,000 times m by (2 m less k) (cut): "
        + "how sure it is that it wasn't in, if that was even before.");
    EndsInFive x = new EndsInFive();
    for (int m = 1; m <= 60; m++) {
      for (int k = 0; k <= m; k++) {
        Edges.is("suspect " + m + ", " + k, x.suspect(m, k), 1000000L * m / (m + m - k));
      }
      Edges.is("none was drawn: even", x.suspect(m, 0), 500000);
      Edges.is("all were drawn: sure", x.suspect(m, m), 1000000);
    }
    Edges.bounds(EndsInFive::new, "m", (y, v) -> y.suspect(v, 1), 1, 60);
    for (int m : new int[] {1, 2, 59, 60}) {
      Edges.bounds(EndsInFive::new, "k of " + m, (y, v) -> y.suspect(m, v), 0, m);
    }
    Edges.tells(() -> Due.stall("slips 1;out 1"), "m is no number of slips that there are", y -> y.suspect(60, 59), 983606);
  }

  private static void sure() {
    Edges.of(PART, "SURE: the least k with which that is f at least.");
    EndsInFive x = new EndsInFive();
    for (int m = 1; m <= 60; m++) {
      Edges.is("0 of " + m, x.sure(m, 0), 0);
      Edges.is("half of " + m, x.sure(m, 500000), 0);
      Edges.is("all of " + m, x.sure(m, 1000000), m);
      for (int k = 0; k <= m; k++) {
        int that = (int) (1000000L * m / (m + m - k));
        Edges.is("just that, " + k + " of " + m, x.sure(m, that), k);
        Edges.is("more than that, " + k + " of " + m, k == m ? k + 1 : x.sure(m, that + 1), k + 1);
      }
    }
    Edges.bounds(EndsInFive::new, "f", (y, v) -> y.sure(60, v), 0, 1000000);
    Edges.bounds(EndsInFive::new, "m", (y, v) -> y.sure(v, 1000000), 1, 60);
  }

  private static void left() {
    Edges.of(PART, "LEFT behind k more goes, if no THING that STANDS is HELD, SUNK or WHISKY: 1000 times how many STAND, "
        + "times how many SLIPS will be IN, by how many are");
    for (int n : new int[] {2, 3, 7, 60}) {
      EndsInFive x = Due.stall("slips " + n + ";rule 2;thing 0 2 0");
      for (int k = 0; k <= n; k++) {
        Edges.is(k + " of " + n, x.left(k), 1000 * (n - k) / n);
      }
      Edges.bounds(() -> Due.stall("slips " + n + ";rule 2;thing 0 2 0"), "k of " + n, EndsInFive::left, 0, n);
    }
    Edges.tells(() -> eightAlone(2, 9), "eight", x -> x.left(0), 8000);
    Edges.tells(() -> eightAlone(1, 9), "four of eight", x -> x.left(4), 4000);
    Edges.tells(EndsInFive::new, "no things", x -> x.left(20), 0);
    for (int kind = 0; kind < 6; kind++) {
      String text = "thing 0 5 0;thing " + kind + " 10 0;out 1;out 2;out 3;out 4;out 6;out 7;out 8;out 9;out 11;out 12;buyer 0";
      boolean may = kind <= 2;
      if (may) {
        Edges.tells(with(text), "kind " + kind, x -> x.left(0), 2000);
      } else {
        Edges.refused(with(text), "kind " + kind, x -> x.left(0), Edges.STUCK);
        EndsInFive x = Due.stall(text);
        Edges.draw(x, 10);
        Edges.is("kind " + kind + ": it was won", x.left(0), kind == 3 ? 0 : 1000);
      }
    }
  }

  private static void leftOfNone() {
    Edges.of(PART, "(cut; 0, if none is).");
    Edges.tells(with("slips 7;rule 7;thing 0 7 0"), "4 of 7", x -> x.left(3), 571);
    Edges.tells(with("slips 7;rule 7;thing 0 7 0"), "1 of 7", x -> x.left(6), 142);
    Edges.tells(() -> drum(3, 0), "none is in", x -> x.left(0), 0);
    Edges.bounds(() -> drum(3, 0), "k of none", EndsInFive::left, 0, 0);
    Edges.bounds(() -> drum(3, 1), "k of one", EndsInFive::left, 0, 1);
  }

  private static EndsInFive booked(String text, int sort, long... slips) {
    EndsInFive x = Due.stall(text);
    Due.book(x, 0, sort, slips);
    return x;
  }

  private static void book() {
    Edges.of(PART, "A BOOK: a ROW of SLIPS drawn by goes one after the other: WRONG: the first that can't be DRAWN; NONE.");
    long[] all = new long[40];
    for (int i = 0; i < 40; i++) {
      all[i] = i + 1;
    }
    for (int n : new int[] {0, 1, 39, 40}) {
      Edges.tells(() -> booked("slips 60", 0, all), n + " are right", x -> x.judge(0, n), -1);
      Edges.tells(() -> booked("slips 39", 0, all), n + " of 39", x -> x.judge(0, n), n == 40 ? 39 : -1);
      Edges.tells(() -> booked("slips 60;out 1", 0, all), n + ": the first is out", x -> x.judge(0, n), n == 0 ? -1 : 0);
      Edges.tells(() -> booked("slips 60;out 40", 0, all), n + ": the last is out", x -> x.judge(0, n), n == 40 ? 39 : -1);
    }
    Edges.tells(() -> booked("slips 60;out 2;out 4", 0, all), "the first of two", x -> x.judge(0, 40), 1);
    long[] none = {0, -1, 21, 60, 61, 63, 64, 65, 128, 129, 256 + 1, 65536 + 1, 4294967297L, Long.MIN_VALUE, Long.MAX_VALUE,
      Long.MIN_VALUE + 1};
    for (long v : none) {
      Edges.tells(() -> booked("out 20", 3, 1, v, 2), v + " is no slip", x -> x.judge(0, 3), 1);
      Edges.tells(() -> booked("out 20", 3, v), v + " is none at the first", x -> x.judge(0, 1), 0);
    }
    Edges.tells(() -> booked("slips 60", 0, 1, 1), "twice", x -> x.judge(0, 2), 1);
    Edges.tells(() -> booked("slips 60", 4, 7, 0), "booleans: 1, and 0 is none", x -> x.judge(0, 2), 1);
    Edges.tells(() -> booked("slips 9;rule 2;thing 4 2 1", 1, 1, 2), "one go of two", x -> x.judge(0, 2), 1);
    Edges.tells(() -> booked("slips 9;rule 2;thing 4 2 1", 1, 1, 3, 2), "two goes", x -> x.judge(0, 3), -1);
    Edges.tells(() -> booked("slips 6;rule 2;thing 5 2 0", 2, 1, 3, 2), "four of six", x -> x.judge(0, 3), 2);
    Edges.tells(() -> booked("slips 6;rule 2;thing 5 2 0", 2, 1, 3, 4, 2), "three of six", x -> x.judge(0, 4), -1);
    Edges.tells(() -> booked("rule 2;thing 3 2 0;thing 4 4 9", 2, 4, 2), "held", x -> x.judge(0, 2), 0);
    Edges.tells(() -> booked("rule 2;thing 3 2 0;thing 4 4 9", 2, 2, 4), "brought", x -> x.judge(0, 2), -1);
  }

  private static void wonByABook() {
    Edges.of(PART, "WON by it: THINGS (bits).");
    Supplier<EndsInFive> eight = () -> {
      EndsInFive x = eightAlone(0, 0);
      Due.book(x, 0, 0, 16, 2, 4, 6, 8, 10, 12, 14);
      return x;
    };
    int[] due = {0, 128, 129, 131, 135, 143, 159, 191, 255};
    for (int n = 0; n <= 8; n++) {
      final int told = n;
      Edges.tells(eight, "won by " + n, x -> x.won(0, told), due[n]);
    }
    Edges.tells(() -> booked("slips 60", 0, 1, 5, 10), "no things", x -> x.won(0, 3), 0);
    Edges.tells(() -> booked("thing 0 5 0;thing 3 10 0", 0, 10, 5), "brought, and then a blank", x -> x.won(0, 2), 3);
  }

  private static void chain() {
    Edges.of(PART, "CHAIN: the fewest goes (12 at most) behind which a THING can be WON, whichever SLIPS that can be are DRAWN;");
    Edges.tells(with("thing 0 5 0"), "at once", x -> x.chain(0), 1);
    Edges.tells(() -> eightAlone(0, 0), "the last", x -> x.chain(7), 1);
    for (int t = 0; t < 8; t++) {
      final int thing = t;
      Edges.tells(() -> {
        EndsInFive x = eightAlone(4, 1);
        x.fete(0);
        return x;
      }, "all eight are held for two goes", x -> x.chain(thing), 3);
    }
    for (int n = 2; n <= 60; n++) {
      int due = n - n / 2 + 1;
      EndsInFive x = Due.stall("slips " + n + ";rule 2;thing 5 2 0");
      Edges.is("sunk of " + n, x.chain(0), due > 12 ? -1 : due);
    }
    Edges.tells(with("slips 22;rule 2;thing 5 2 0"), "twelve", x -> x.chain(0), 12);
    Edges.tells(with("slips 23;rule 2;thing 5 2 0"), "thirteen", x -> x.chain(0), -1);
    Edges.tells(with("slips 8;rule 2;thing 0 2 0;thing 4 4 9;thing 3 6 0"), "brought behind another", x -> x.chain(1), 2);
    Edges.tells(with("slips 8;rule 2;thing 4 4 9;thing 3 6 0"), "brought at once", x -> x.chain(0), 1);
    Edges.tells(with("slips 8;rule 2;thing 4 2 9;thing 4 4 9;thing 3 6 0;thing 3 8 9"), "brought by the second", x -> x.chain(1), 2);
    Edges.tells(with("slips 8;rule 2;thing 4 2 9;thing 4 4 9;thing 3 6 0"), "the one whisky brings the first alone",
        x -> x.chain(1), -1);
  }

  private static void chainOfHeld() {
    for (int a = 0; a <= 9; a++) {
      EndsInFive x = Due.stall("slips 60;thing 4 60 " + a + ";thing 5 55 " + a + ";buyer 0");
      for (int goes = 0; goes <= 20; goes++) {
        int due = Math.max(0, a + a - goes) + 1;
        Edges.is("a " + a + " behind " + goes + " goes", x.chain(0), due > 12 ? -1 : due);
        int sunk = Math.max(due, 30 - goes + 1);
        Edges.is("and sunk", x.chain(1), sunk > 12 ? -1 : sunk);
        Edges.draw(x, goes + 1);
      }
    }
  }

  private static void chainOfNone() {
    Edges.of(PART, "0: it doesn't STAND; NONE.");
    Supplier<EndsInFive> won = () -> {
      EndsInFive x = Due.stall("thing 3 5 0;thing 4 10 9;thing 0 15 0;buyer 0");
      Edges.draw(x, 5);
      return x;
    };
    Edges.tells(won, "drawn", x -> x.chain(0), 0);
    Edges.tells(won, "brought", x -> x.chain(1), 0);
    Edges.tells(won, "it stands", x -> x.chain(2), 1);
    Edges.tells(() -> eightAlone(4, 1), "none can be drawn", x -> x.chain(7), -1);
    Edges.tells(with("slips 3;rule 3;thing 4 3 1;out 1"), "one blank too few", x -> x.chain(0), -1);
    Edges.tells(with("slips 3;rule 3;thing 4 3 1"), "just as many", x -> x.chain(0), 3);
    Edges.tells(with("slips 60;thing 4 5 9"), "eighteen goes", x -> x.chain(0), -1);
  }
}
