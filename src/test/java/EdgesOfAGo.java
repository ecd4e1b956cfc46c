import java.util.ArrayList;
import java.util.List;
import java.util.function.Supplier;

/** The edges of section 2: what can be drawn, what is won, and what a go is worth. */
final class EdgesOfAGo {
  private static final String PART = "A GO";

  private EdgesOfAGo() {
  }

  static void run() {
    inTheDrum();
    held();
    sunk();
    both();
    evenChances();
    outThen();
    wonByIt();
    whiskies();
    whiskyOfEight();
    slipOfWhatWasBrought();
    tins();
    worth();
    worthCut();
    worthOfNone();
  }

  private static void inTheDrum() {
    Edges.of(PART, "A SLIP can be DRAWN, if it is IN and, if a THING that STANDS is stuck on it:");
    EndsInFive x = Due.stall("slips 60;thing 0 5 0;thing 1 10 9;thing 2 15 9;thing 3 20 9;out 60;buyer 0");
    for (int s = 1; s <= 60; s++) {
      Edges.is("can be drawn: " + s, x.slipOf(s, 2), s == 60 ? 0 : 1);
    }
    Edges.is("so many", x.drawable(), 59);
    Edges.draw(x, 1, 5, 59);
    for (int s : new int[] {1, 5, 59, 60}) {
      Edges.is("is out: " + s, x.slipOf(s, 2), 0);
    }
    Edges.is("three less", x.drawable(), 56);
    Supplier<EndsInFive> one = () -> Due.stall("slips 1");
    Edges.tells(one, "one alone", EndsInFive::drawable, 1);
    Edges.tells(() -> Due.stall("slips 1;out 1"), "none", EndsInFive::drawable, 0);
    EndsInFive y = Due.stall("thing 3 5 0;thing 5 10 9;buyer 0");
    Edges.is("a thing that stands holds it back", y.slipOf(10, 2), 0);
    Edges.draw(y, 5);
    Edges.is("one that was won doesn't", y.slipOf(10, 2), 1);
    Edges.draw(y, 10);
    Edges.is("out", y.slipOf(10, 2), 0);
  }

  private static void held() {
    Edges.of(PART, "of a HELD one, if there were a times 2 GOES at least;");
    for (int a = 0; a <= 9; a++) {
      EndsInFive x = Due.stall("slips 60;thing 4 60 " + a + ";thing 4 55 9;buyer 0");
      for (int goes = 0; goes <= 19; goes++) {
        String call = "a " + a + " behind " + goes + " goes";
        Edges.is(call, x.slipOf(60, 2), goes >= a + a ? 1 : 0);
        Edges.is(call + ": the other", x.slipOf(55, 2), goes >= 18 ? 1 : 0);
        Edges.is(call + ": so many", x.drawable(), 58 - goes + (goes >= a + a ? 1 : 0) + (goes >= 18 ? 1 : 0));
        Edges.draw(x, goes + 1);
      }
      x.fete(0);
      Edges.is("a " + a + " at the next fete", x.slipOf(60, 2), a == 0 ? 1 : 0);
    }
    Edges.tells(() -> Due.stall("slips 4;rule 4;thing 4 4 1;out 1;out 2;out 3"), "what is out was no go",
        EndsInFive::drawable, 0);
  }

  private static void sunk() {
    Edges.of(PART, "of a SUNK one, if, besides, no more than half of all n SLIPS are IN.");
    for (int n = 2; n <= 60; n++) {
      EndsInFive x = Due.stall("slips " + n + ";rule 2;thing 5 2 0;buyer 0");
      for (int in = n; in > 1; in--) {
        Edges.is(in + " of " + n + " are in", x.slipOf(2, 2), in + in <= n ? 1 : 0);
        Edges.draw(x, in == n ? 1 : n - in + 2);
      }
      Edges.is("one of " + n + " is in", x.slipOf(2, 2), 1);
    }
    EndsInFive y = Due.stall("slips 4;rule 2;thing 5 2 0;out 1;out 3");
    Edges.is("half by what a text says", y.slipOf(2, 2), 1);
  }

  private static void both() {
    EndsInFive x = Due.stall("slips 4;rule 2;thing 5 2 1;out 1;out 3;buyer 0");
    Edges.is("half are in, but no go was had", x.slipOf(2, 2), 0);
    Edges.draw(x, 4);
    Edges.is("one go of two", x.slipOf(2, 2), 0);
    EndsInFive y = Due.stall("slips 8;rule 2;thing 5 2 1;buyer 0");
    Edges.draw(y, 1, 3);
    Edges.is("two goes, but six of eight are in", y.slipOf(2, 2), 0);
    Edges.draw(y, 5);
    Edges.is("five of eight", y.slipOf(2, 2), 0);
    Edges.draw(y, 7);
    Edges.is("four of eight", y.slipOf(2, 2), 1);
    EndsInFive z = Due.stall("slips 4;rule 2;thing 4 2 0;buyer 0");
    Edges.is("one that is held alone needs no half", z.slipOf(2, 2), 1);
    Edges.refused(() -> {
      EndsInFive w = Due.stall("slips 2;rule 2;thing 5 2 1;buyer 9");
      Edges.draw(w, 1);
      return w;
    }, "no slip can be drawn any more", w -> w.go(0), Edges.STUCK);
  }

  private static void evenChances() {
    Edges.of(PART, "Each that can has even chances.");
    EndsInFive x = Due.stall("slips 12;rule 2;thing 4 4 9;thing 5 10 0;thing 0 12 0;out 1;buyer 99");
    List<Integer> can = List.of(2, 3, 5, 6, 7, 8, 9, 11, 12);
    int[] drawn = new int[13];
    x.image();
    for (int seed = 0; seed < 4500; seed++) {
      x.back();
      x.seed(seed * 69069 + 1);
      drawn[x.go(0)]++;
    }
    List<Integer> even = new ArrayList<>();
    for (int s = 1; s <= 12; s++) {
      if (drawn[s] > 400 && drawn[s] < 600) {
        even.add(s);
      } else {
        Edges.is("how often " + s + " was drawn", drawn[s], 0);
      }
    }
    Edges.is("those about as often as others", even.toString(), can.toString());
  }

  private static void outThen() {
    Edges.of(PART, "The SLIP is out then, GOES 1 more;");
    for (int slip : new int[] {1, 5, 10, 60}) {
      EndsInFive x = Due.stall("slips 60;thing 0 5 0;buyer 0");
      Edges.draw(x, slip);
      Edges.is("out: " + slip, x.slipOf(slip, 0), 0);
      Edges.is("the others are in", x.status(2), 59);
      Edges.is("goes", x.status(3), 1);
    }
    EndsInFive y = Due.stall("slips 1;buyer 10");
    Edges.is("the last", y.go(0), 1);
    Edges.is("it is out", y.status(2), 0);
    Edges.is("one go", y.status(3), 1);
  }

  private static void wonByIt() {
    Edges.of(PART, "a THING on it that STANDS is WON (it doesn't STAND then);");
    for (int kind = 0; kind < 6; kind++) {
      String text = "slips 8;rule 4;thing " + kind + " 8 0;buyer 99;out 1;out 2;out 3;out 4;out 5";
      Edges.tells(() -> Due.stall(text), "kind " + kind, x -> x.wins(8), 1);
      EndsInFive x = Due.stall(text);
      Edges.draw(x, 8);
      Edges.is("kind " + kind + " doesn't stand", x.status(5), 0);
      Edges.is("it is theirs", x.thingOf(0, 4), 0);
    }
    Supplier<EndsInFive> stall = () -> Due.stall("thing 0 5 0;thing 0 10 0;buyer 99");
    Edges.tells(stall, "a slip that wins, with no thing", x -> x.wins(15), 0);
    Edges.tells(stall, "a slip that doesn't win", x -> x.wins(1), 0);
    Edges.tells(stall, "the second", x -> x.wins(10), 2);
    EndsInFive y = stall.get();
    Edges.draw(y, 15, 1);
    Edges.is("nothing was won", y.status(5), 3);
    EndsInFive z = Due.stall("thing 3 5 0;thing 0 10 0;buyer 99;buyer 99");
    Due.book(z, 0, 0, 5);
    z.booked(0, 1, 1);
    Edges.is("what doesn't stand isn't won", z.wins(10), 0);
    Edges.draw(z, 10);
    Edges.is("it stays whose it is", z.thingOf(1, 4), 1);
  }

  private static void whiskies() {
    Edges.of(PART, "of a WHISKY the first THING besides that STANDS and is neither BOTTLE nor WHISKY is WON, too");
    Edges.tells(() -> Due.stall("thing 3 5 0"), "nothing besides", x -> x.wins(5), 1);
    Edges.tells(() -> Due.stall("thing 1 5 0;thing 3 10 0;thing 3 15 0;thing 1 20 0"), "bottles and whiskies alone",
        x -> x.wins(10), 2);
    for (int kind = 0; kind < 6; kind++) {
      boolean brings = kind != 1 && kind != 3;
      String ahead = "thing " + kind + " 5 9;thing 3 10 0";
      String behind = "thing 3 5 0;thing " + kind + " 10 9";
      Edges.tells(() -> Due.stall(ahead), "kind " + kind + " ahead of it", x -> x.wins(10), brings ? 3 : 2);
      Edges.tells(() -> Due.stall(behind), "kind " + kind + " behind it", x -> x.wins(5), brings ? 3 : 1);
    }
    for (int kind : new int[] {0, 1, 2, 4, 5}) {
      String text = "thing " + kind + " 5 0;thing 0 10 0;out 1;out 2;out 3;out 4;out 6;out 7;out 8;out 9;out 11;out 12";
      Edges.tells(() -> Due.stall(text), "kind " + kind + " brings none", x -> x.wins(5), 1);
    }
    Supplier<EndsInFive> stall = () -> Due.stall("slips 60;thing 3 5 0;thing 1 10 0;thing 2 15 0;thing 0 20 0;thing 3 25 0;buyer 0");
    Edges.tells(stall, "the first of two", x -> x.wins(25), 16 + 4);
    EndsInFive y = stall.get();
    Edges.draw(y, 15);
    Edges.is("the first is won, the second is brought", y.wins(25), 16 + 8);
    Edges.draw(y, 25);
    Edges.is("both are theirs", y.buyerOf(0, 1), 4 + 16 + 8);
    Edges.is("none is left to bring", y.wins(5), 1);
    y.fete(1000);
    Edges.is("behind a fete they stand again", y.wins(5), 1 + 4);
  }

  private static void whiskyOfEight() {
    EndsInFive x = new EndsInFive();
    x.slips(60);
    for (int t = 0; t < 8; t++) {
      x.thing(t < 4 ? 3 : 4, 5 * t + 5, 9);
    }
    x.buyer(0);
    for (int t = 0; t < 4; t++) {
      Edges.is("the whisky " + t, x.wins(5 * t + 5), 1 << t | 1 << t + 4);
      Edges.draw(x, 5 * t + 5);
    }
    Edges.is("all are won", x.buyerOf(0, 1), 255);
    Edges.is("goes", x.status(3), 4);
  }

  private static void slipOfWhatWasBrought() {
    Edges.of(PART, "(its SLIP stays IN, and is a blank then).");
    Supplier<EndsInFive> stall = () -> {
      EndsInFive x = Due.stall("slips 12;thing 3 5 0;thing 5 10 9;buyer 99");
      Edges.draw(x, 5);
      return x;
    };
    Edges.tells(stall, "in", x -> x.slipOf(10, 0), 1);
    Edges.tells(stall, "it can be drawn", x -> x.slipOf(10, 2), 1);
    Edges.tells(stall, "nothing is won by it", x -> x.wins(10), 0);
    Edges.tells(stall, "all that are in can be drawn", EndsInFive::drawable, 11);
    Edges.tells(stall, "till counts it as a blank: none stands", x -> x.till(0), 0);
    EndsInFive y = Due.stall("slips 6;rule 2;price 1;thing 3 2 0;thing 0 4 0;thing 0 6 0;out 1;out 3;out 5;buyer 9;likes 0 2 3");
    Edges.draw(y, 2);
    // The blank that came of it: 3 by 2 less 1, and 3 less 1 behind it.
    Edges.is("a plan counts it as a blank", y.plan(0), (3000 + 2000) / 2 - 1000);
    Edges.is("so does worth", y.worth(0), 1500);
  }

  private static void tins() {
    Edges.of(PART, "Of a TIN that is WON, either way, AGE is 1 more.");
    for (int kind = 0; kind < 6; kind++) {
      EndsInFive x = Due.stall("slips 8;rule 4;thing " + kind + " 8 0;buyer 9;out 1;out 2;out 3;out 4;out 5");
      Edges.draw(x, 8);
      Edges.is("kind " + kind + " that is drawn", x.thingOf(0, 3), kind == 2 ? 1 : 0);
      EndsInFive y = Due.stall("thing 3 5 0;thing " + kind + " 10 0;buyer 9");
      Edges.draw(y, 5);
      Edges.is("kind " + kind + " that may be brought", y.thingOf(1, 3), kind == 2 ? 1 : 0);
      Edges.is("the whisky's", y.thingOf(0, 3), 0);
    }
    EndsInFive x = Due.stall("thing 2 5 0;thing 2 10 0;buyer 9");
    Edges.draw(x, 1, 10);
    Edges.is("a tin that stands", x.thingOf(0, 3), 0);
    Edges.is("a tin that was won", x.thingOf(1, 3), 1);
    x.fete(1);
    Edges.is("and came back", x.thingOf(1, 3), 2);
    Edges.draw(x, 10);
    Edges.is("and was won again", x.thingOf(1, 3), 3);
    EndsInFive y = Due.stall("slips 2;rule 2;thing 2 2 0;buyer 99");
    y.five(0);
    Edges.is("by five", y.thingOf(0, 3), 1);
  }

  private static void worth() {
    Edges.of(PART, "WORTH of a go to a BUYER: of what they LIKE of all that is WON by each SLIP that can be DRAWN,");
    Supplier<EndsInFive> stall = () -> Due.stall("slips 10;rule 2;thing 3 2 0;thing 4 4 1;thing 0 6 0;"
        + "buyer 0;buyer 0;buyer 0;likes 0 1 100;likes 1 2 999;likes 2 0 8;likes 2 1 1;likes 2 2 2");
    Edges.tells(stall, "what is held is brought alone", x -> x.worth(0), 100000 / 9);
    Edges.tells(stall, "the thing alone", x -> x.worth(1), 999000 / 9);
    Edges.tells(stall, "all of them", x -> x.worth(2), 11000 / 9);
    Supplier<EndsInFive> later = () -> {
      EndsInFive x = stall.get();
      Edges.draw(x, 1, 3);
      return x;
    };
    Edges.tells(later, "what is held can be drawn, too", x -> x.worth(0), 200000 / 8);
    Edges.bounds(stall, "worth of a buyer", EndsInFive::worth, 0, 2);
  }

  private static void worthCut() {
    Edges.of(PART, "the sum, times 1000, by how many can (cut);");
    for (int n = 2; n <= 60; n++) {
      for (int like : new int[] {0, 1, 998, 999}) {
        EndsInFive x = Due.stall("slips " + n + ";rule 2;thing 0 2 0;buyer 0;likes 0 0 " + like);
        Edges.is(like + " by " + n, x.worth(0), like * 1000 / n);
      }
    }
    StringBuilder text = new StringBuilder("slips 16;rule 2;buyer 0");
    for (int t = 0; t < 8; t++) {
      text.append(";thing ").append(t < 4 ? 3 : 0).append(' ').append(2 * t + 2).append(" 0;out ").append(2 * t + 1);
    }
    EndsInFive x = Due.stall(text.toString());
    for (int t = 0; t < 8; t++) {
      x.likes(0, t, 999);
    }
    Edges.is("eight slips, twelve times 999", x.worth(0), 12 * 999000 / 8);
  }

  private static void worthOfNone() {
    Edges.of(PART, "0, if none can.");
    Edges.tells(() -> Due.stall("slips 1;buyer 5;out 1"), "none is in", x -> x.worth(0), 0);
    Edges.tells(() -> Due.stall("slips 2;rule 2;thing 4 2 1;buyer 5;likes 0 0 999;out 1"), "the one that is in is held",
        x -> x.worth(0), 0);
    Edges.tells(() -> Due.stall("slips 4;rule 2;thing 5 2 0;thing 5 4 0;out 1;buyer 5;likes 0 0 999;out 3"), "two of four",
        x -> x.worth(0), 499500);
    Edges.tells(() -> Due.stall("slips 4;rule 2;thing 5 2 1;thing 4 4 1;out 1;buyer 5;likes 0 0 999;out 3"), "both are held",
        x -> x.worth(0), 0);
  }
}
