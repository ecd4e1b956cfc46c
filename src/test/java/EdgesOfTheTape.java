import java.util.function.Supplier;

/** The edges of section 1's tape: its bytes, its tokens, its statements, and where the fault is. */
final class EdgesOfTheTape {
  private static final String PART = "THE STALL";
  private static final Supplier<EndsInFive> NEW = EndsInFive::new;

  private EdgesOfTheTape() {
  }

  static void run() {
    bytes();
    longest();
    words();
    numbers();
    signs();
    blanks();
    statements();
    slips();
    rule();
    prices();
    thing();
    buyer();
    likes();
    out();
    allOrNothing();
    firstFault();
    badNumbers();
    slipsAndRuleThatCant();
    noRoom();
    bytesThatBeginNone();
    endsTooEarly();
  }

  private static String filled(String text, char with, int size) {
    return text + String.valueOf(with).repeat(size - text.length());
  }

  private static Supplier<EndsInFive> with(String text) {
    return () -> Due.stall(text);
  }

  private static void bytes() {
    Edges.of(PART, "A STALL is read from THE TAPE (bytes, 250 at most).");
    Edges.bounds(Edges::rich, "feed", EndsInFive::feed, 0, 255);
    EndsInFive x = new EndsInFive();
    for (int i = 1; i <= 250; i++) {
      Edges.is("its size", x.feed(i % 256), i);
    }
    Edges.is("250", x.status(8), 250);
    Edges.refused(() -> full("price 9"), "one more", y -> y.feed(32), Edges.FULL);
    Edges.is("it is read still", full("price 9").stall(), 1);
    EndsInFive z = full("price 9");
    z.stall();
    Edges.is("there is room again", z.feed(32), 1);
    Edges.reads(NEW, filled("", ' ', 243) + "price 9", 1);
    Edges.fault(NEW, filled("price 9", ' ', 249) + "9", 249);
    Edges.fault(NEW, filled("price 9", ' ', 249) + ";", 250);
  }

  private static EndsInFive full(String text) {
    EndsInFive x = new EndsInFive();
    Due.feed(x, filled(text, ' ', 250));
    return x;
  }

  private static void longest() {
    Edges.of(PART, "TOKENS, each as long as can be:");
    Edges.fault(NEW, "buyerbuyer 1", 0);
    Edges.fault(NEW, "price 5 fivefive 5", 8);
    Edges.fault(NEW, "price 5 fiv e 5", 8);
    Edges.fault(NEW, "bu yer 1", 0);
    Edges.is("12 is one number", Edges.reads(NEW, "buyer 12", 1).buyerOf(0, 0), 12);
    Edges.fault(NEW, "buyer 1 2", 8);
    Edges.fault(NEW, filled("", 'a', 250), 0);
    Edges.fault(NEW, filled("buyer ", '1', 250), 6);
    Edges.fault(NEW, "thing 0 20", 10);
    Edges.fault(NEW, "thing 0 50", 8);
  }

  private static void words() {
    Edges.of(PART, "WORDS (a .. z),");
    for (char c = 0; c <= 255; c++) {
      boolean isLetter = "abcdefghijklmnopqrstuvwxyz".indexOf(c) >= 0;
      boolean isDigit = "0123456789".indexOf(c) >= 0;
      boolean isNeither = !isLetter && !isDigit && c != ' ';
      if (isNeither) {
        Edges.fault(NEW, "buyer" + c + "1", 5);
      } else if (isLetter) {
        Edges.fault(NEW, "buyer" + c + "1", 0);
        Edges.fault(NEW, "price 5 five" + c + "1", 8);
      } else {
        int purse = isDigit ? 10 * (c - '0') + 1 : 1;
        Edges.is("purse", Edges.reads(NEW, "buyer" + c + "1", 1).buyerOf(0, 0), purse);
      }
      if (c == 'r') {
        Edges.reads(NEW, "buye" + c + " 1", 1);
      } else {
        Edges.fault(NEW, "buye" + c + " 1", 0);
      }
    }
    Edges.fault(NEW, "BUYER 1", 0);
    Edges.fault(NEW, "buyeR 1", 0);
  }

  private static void numbers() {
    Edges.of(PART, "NUMBERS (digits),");
    for (char c = 0; c <= 255; c++) {
      boolean isDigit = "0123456789".indexOf(c) >= 0;
      if (isDigit) {
        Edges.is("purse", Edges.reads(NEW, "buyer 1" + c + ";rule 2", 2).buyerOf(0, 0), 10 + c - '0');
        Edges.is("purse", Edges.reads(NEW, "buyer " + c + "1;rule 2", 2).buyerOf(0, 0), 10 * (c - '0') + 1);
      } else if (c == ' ') {
        Edges.is("purse", Edges.reads(NEW, "buyer 1" + c + ";rule 2", 2).buyerOf(0, 0), 1);
      } else {
        Edges.fault(NEW, "buyer 1" + c + ";rule 2", c == ';' ? 8 : 7);
        Edges.fault(NEW, "buyer " + c + "1;rule 2", 6);
      }
    }
    for (char c = '0'; c <= '9'; c++) {
      String four = String.valueOf(c).repeat(4);
      Edges.is("four digits", Edges.reads(NEW, "buyer " + four, 1).buyerOf(0, 0), Integer.parseInt(four));
    }
    Edges.is("zeros ahead", Edges.reads(NEW, "buyer 0907", 1).buyerOf(0, 0), 907);
    Edges.fault(NEW, "buyer -1", 6);
    Edges.fault(NEW, "buyer +1", 6);
    Edges.fault(NEW, "buyer 1.0", 7);
  }

  private static void signs() {
    Edges.of(PART, "the SIGN ;");
    Edges.reads(NEW, "buyer 1;buyer 2", 2);
    for (String sign : new String[] {":", ",", ".", "\n", "\t", "\u0000", "\u00bb", "and", "0 0"}) {
      Edges.fault(NEW, "buyer 1 " + sign + " buyer 2", 8);
    }
    Edges.fault(NEW, "buyer 1 ;; buyer 2", 9);
    Edges.fault(NEW, "buyer;1", 5);
    Edges.fault(NEW, "price 5;five 5", 8);
  }

  private static void blanks() {
    Edges.of(PART, "- blanks (32) may stand anywhere between.");
    Edges.reads(NEW, "buyer1;price5five6;rule7;slips30;out3;thing0 7 0;likes0 0 9", 7);
    Edges.reads(NEW, " buyer 1 ; price 5 five 6 ; rule 7 ; slips 30 ; out 3 ; thing 0 7 0 ; likes 0 0 9 ", 7);
    Edges.reads(NEW, "   buyer   1   ;   price   5   five   6   ;   thing   0   5   0   ", 3);
    for (int ahead : new int[] {0, 1, 100, 243}) {
      String blanks = filled("", ' ', ahead);
      String behind = filled("", ' ', 243 - ahead);
      Edges.reads(NEW, blanks + "buyer 1" + behind, 1);
      Edges.reads(NEW, "buyer" + blanks + " 1" + behind, 1);
    }
    for (char c : new char[] {31, 33, 9, 10, 13, 0, 160}) {
      Edges.fault(NEW, "buyer 1;" + c + "buyer 1", 8);
      Edges.fault(NEW, "buyer 1" + c, 7);
      Edges.fault(NEW, c + "buyer 1", 0);
    }
  }

  private static void statements() {
    Edges.of(PART, "STATEMENTS, one or more, with ; between:");
    Edges.fault(NEW, "", 0);
    Edges.fault(NEW, " ", 1);
    Edges.fault(NEW, ";", 0);
    Edges.reads(NEW, "rule 2", 1);
    Edges.fault(NEW, "rule 2;", 7);
    Edges.fault(NEW, ";rule 2", 0);
    Edges.fault(NEW, "rule 2 rule 3", 7);
    Edges.reads(NEW, "rule 2;rule 3", 2);
    String most = "rule2" + ";rule2".repeat(40);
    Edges.reads(NEW, most, 41);
    Edges.reads(NEW, most + "     ", 41);
    Edges.fault(NEW, most + ";rule", 250);
    Edges.fault(NEW, most + ";rul2", 246);
    for (String text : new String[] {"slips 9", "rule 9", "price 9", "thing 0 5 0", "buyer 9", "likes 0 0 9", "out 9"}) {
      Edges.reads(with("buyer 5" + (text.startsWith("likes") ? ";thing 0 10 0" : "")), text, 1);
      for (int i = 0; i < text.indexOf(' '); i++) {
        char other = text.charAt(i) == 'z' ? 'a' : (char) (text.charAt(i) + 1);
        Edges.fault(NEW, text.substring(0, i) + other + text.substring(i + 1), 0);
        Edges.fault(NEW, text.substring(0, i) + text.substring(i + 1), 0);
        Edges.fault(NEW, text.substring(0, i) + Character.toUpperCase(text.charAt(i)) + text.substring(i + 1), 0);
      }
    }
    for (String word : new String[] {"five 5", "slip 5", "things 0 5 0", "sunk 5", "like 0 0 0", "outs 1", "seed 5", "7"}) {
      Edges.fault(NEW, word, 0);
      Edges.fault(NEW, "rule 2; " + word, 8);
    }
  }

  /** The least and the greatest number may stand there; those beside them, and five digits, may not. */
  private static void number(Supplier<EndsInFive> fresh, String ahead, String behind, int least, int greatest) {
    int place = ahead.length();
    int statements = (ahead + least + behind).split(";").length;
    for (int v : new int[] {least, greatest}) {
      Edges.reads(fresh, ahead + v + behind, statements);
    }
    String four = "0000" + least;
    Edges.reads(fresh, ahead + four.substring(four.length() - 4) + behind, statements);
    Edges.fault(fresh, ahead + four.substring(four.length() - 5) + behind, place);
    if (least > 0) {
      Edges.fault(fresh, ahead + (least - 1) + behind, place);
    }
    Edges.fault(fresh, ahead + (greatest + 1) + behind, place);
    Edges.fault(fresh, ahead + "9999" + (greatest == 9999 ? "9" : "") + behind, place);
    Edges.fault(fresh, ahead + (4294967296L + least) + behind, place);
    Edges.fault(fresh, ahead + ";" + behind, place);
    Edges.fault(fresh, ahead + "x" + behind, place);
    Edges.fault(fresh, ahead + "-" + least + behind, place);
    Edges.fault(fresh, ahead.substring(0, place - 1), place - 1);
    Edges.fault(fresh, ahead + "  ", place + 2);
  }

  private static void slips() {
    Edges.of(PART, "slips N (only if there are no THINGS; all IN then);");
    number(with("out 1;out 20"), "slips ", "", 1, 60);
    number(NEW, "rule 2;slips ", ";rule 3", 1, 60);
  }

  private static void slipsComeIn() {
    for (int n : new int[] {1, 20, 60}) {
      EndsInFive x = Edges.reads(with("out 1;out 20"), "slips " + n, 1);
      Edges.is("slips", x.status(0), n);
      Edges.is("all in", x.status(2), n);
    }
    EndsInFive x = Edges.reads(NEW, "out 3;slips 20;out 4", 3);
    Edges.is("in, and the later one out", x.status(2), 19);
    Edges.is("the later one", x.slipOf(4, 0), 0);
    Edges.fault(with("thing 0 5 0"), "slips 20", 0);
    Edges.fault(NEW, "thing 0 5 0;slips 20", 12);
    Edges.fault(EdgesOfTheTape::allWon, "slips 20", 0);
  }

  /** The one thing doesn't stand, yet it is there. */
  private static EndsInFive allWon() {
    EndsInFive x = Due.stall("thing 0 5 0;buyer 9");
    Edges.draw(x, 5);
    return x;
  }

  private static void rule() {
    slipsComeIn();
    Edges.of(PART, "rule N (likewise);");
    number(with("out 1;out 20"), "rule ", "", 2, 10);
    number(NEW, "slips 30;rule ", ";slips 9", 2, 10);
    for (int rule = 2; rule <= 10; rule++) {
      Edges.is("rule", Edges.reads(NEW, "rule " + rule, 1).status(1), rule);
    }
    Edges.is("what is out stays out, as by the call", Edges.reads(with("out 1;out 20"), "rule 3", 1).status(2), 18);
    Edges.reads(NEW, "rule 7;thing 0 7 0", 2);
    Edges.fault(NEW, "rule 7;thing 0 5 0", 15);
    Edges.fault(with("thing 0 5 0"), "rule 5", 0);
    Edges.fault(NEW, "thing 0 5 0;rule 5", 12);
    Edges.fault(EdgesOfTheTape::allWon, "rule 5", 0);
  }

  private static void prices() {
    Edges.of(PART, "price N, perhaps five M;");
    number(Edges::wiped, "price ", "", 1, 99);
    number(Edges::wiped, "price ", " five 5", 1, 99);
    number(Edges::wiped, "price 5 five ", "", 1, 495);
    number(Edges::wiped, "price 5 five ", ";buyer 3", 1, 495);
    EndsInFive x = Edges.reads(NEW, "price 99 five 495", 1);
    Edges.is("price", x.price(0, 1), 99);
    Edges.is("five", x.price(1, 1), 495);
    EndsInFive y = Edges.reads(with("price 7 five 8"), "price 1", 1);
    Edges.is("price", y.price(0, 1), 1);
    Edges.is("five stays", y.price(1, 1), 8);
    Edges.fault(NEW, "price 5 five 5 five 5", 15);
    Edges.fault(NEW, "price five 5", 6);
    Edges.fault(NEW, "five 5 price 5", 0);
  }

  private static void thing() {
    Edges.of(PART, "thing K S A;");
    number(Edges::wiped, "thing ", " 21 0", 0, 5);
    number(Edges::wiped, "thing 0 21 ", "", 0, 9);
    for (int slip = 0; slip <= 32; slip++) {
      boolean may = slip == 21 || slip == 24 || slip == 27 || slip == 30;
      if (may) {
        EndsInFive x = Edges.reads(Edges::wiped, "thing 5 " + slip + " 9", 1);
        Edges.is("kind", x.thingOf(6, 0), 5);
        Edges.is("slip", x.thingOf(6, 1), slip);
        Edges.is("a", x.thingOf(6, 2), 9);
        Edges.is("age", x.thingOf(6, 3), 0);
        Edges.is("it stands", x.thingOf(6, 4), -1);
      } else {
        Edges.fault(Edges::wiped, "thing 0 " + slip + " 0", 8);
      }
    }
    for (int slip : new int[] {33, 60, 63, 85, 9999}) {
      Edges.fault(Edges::wiped, "thing 0 " + slip + " 0", 8);
    }
    Edges.fault(NEW, "thing 0 5 0;thing 0 5 0", 20);
    Edges.fault(NEW, "out 5;thing 0 5 0", 14);
    Edges.fault(with("thing 3 5 0;thing 0 10 0;buyer 9"), "thing 0 10 0", 8);
    Edges.reads(NEW, "slips 60;thing 0 60 0", 2);
    Edges.fault(NEW, "slips 59;thing 0 60 0", 17);
    Edges.fault(Edges::wiped, "thing 0 21 0 0", 13);
  }

  private static void buyer() {
    Edges.of(PART, "buyer N;");
    number(Edges::wiped, "buyer ", "", 0, 9999);
    number(NEW, "rule 2;buyer ", ";rule 3", 0, 9999);
    for (int purse : new int[] {0, 1, 9998, 9999}) {
      EndsInFive x = Edges.reads(NEW, "buyer " + purse, 1);
      Edges.is("purse", x.buyerOf(0, 0), purse);
    }
  }

  private static void likes() {
    Edges.of(PART, "likes B T N;");
    number(Edges::wiped, "likes ", " 5 7", 0, 2);
    number(Edges::wiped, "likes 2 ", " 7", 0, 5);
    number(Edges::wiped, "likes 2 5 ", "", 0, 999);
    for (int v : new int[] {0, 1, 999}) {
      Edges.is("by so much", Edges.reads(Edges::wiped, "likes 2 5 " + v, 1).thingOf(5, 12), v);
    }
    Edges.fault(NEW, "likes 0 0 0", 6);
    Edges.fault(with("buyer 5"), "likes 0 0 0", 8);
    Edges.fault(with("thing 0 5 0"), "likes 0 0 0", 6);
    Edges.reads(NEW, "thing 0 5 0;buyer 5;likes 0 0 999", 3);
    Edges.fault(NEW, "thing 0 5 0;likes 0 0 999;buyer 5", 18);
    Edges.is("what is won may be liked", Edges.reads(EdgesOfTheTape::allWon, "likes 0 0 5", 1).buyerOf(0, 2), 5);
  }

  private static void out() {
    Edges.of(PART, "out S (a SLIP that is IN and whose THING, if there is one, doesn't STAND).");
    number(with("slips 1"), "out ", "", 1, 1);
    number(NEW, "out ", "", 1, 20);
    number(with("slips 60"), "out ", ";buyer 5", 1, 60);
    Edges.is("out", Edges.reads(NEW, "out 20", 1).slipOf(20, 0), 0);
    Edges.fault(NEW, "out 20;out 20", 11);
    Edges.fault(with("out 20"), "out 20", 4);
    Edges.fault(with("thing 0 5 0"), "out 5", 4);
    Edges.reads(with("thing 0 5 0"), "out 10", 1);
    Edges.fault(EdgesOfTheTape::allWon, "out 5", 4);
    Supplier<EndsInFive> brought = () -> {
      EndsInFive x = Due.stall("thing 3 5 0;thing 0 10 0;buyer 9");
      Edges.draw(x, 5);
      return x;
    };
    EndsInFive x = Edges.reads(brought, "out 10", 1);
    Edges.is("its thing doesn't stand: it is out", x.slipOf(10, 0), 0);
    Edges.is("no go was had for it", x.status(3), 1);
    StringBuilder all = new StringBuilder("out 1");
    for (int s = 2; s <= 20; s++) {
      all.append(";out ").append(s);
    }
    Edges.is("all are out", Edges.reads(NEW, all.toString(), 20).status(2), 0);
  }

  private static void allOrNothing() {
    Edges.of(PART, "All comes to what there is, or nothing.");
    String good = "buyer 9;thing 4 21 7;likes 3 6 5;price 98 five 494;out 30";
    EndsInFive x = Edges.reads(Edges::wiped, good, 5);
    Edges.is("a buyer", x.buyerOf(3, 0), 9);
    Edges.is("a thing", x.thingOf(6, 0), 4);
    Edges.is("liked", x.thingOf(6, 13), 5);
    Edges.is("price", x.price(0, 1), 98);
    Edges.is("five", x.price(1, 1), 494);
    Edges.is("out", x.slipOf(30, 0), 0);
    Edges.is("what there was", x.thingOf(0, 1), 3);
    Edges.fault(Edges::wiped, good + ";", good.length() + 1);
    Edges.fault(Edges::wiped, good + ";out 30", good.length() + 5);
    Edges.fault(Edges::wiped, good + ";slips 30", good.length() + 1);
    Edges.fault(Edges::wiped, good + "?", good.length());
    Edges.fault(NEW, "slips 60;rule 2;buyer", 21);
  }

  private static void firstFault() {
    Edges.of(PART, "The FAULT: the place of the first byte of the first TOKEN that can't stand there");
    Edges.fault(NEW, "buyer", 5);
    Edges.fault(NEW, "buyer buyer", 6);
    Edges.fault(NEW, "   nobody", 3);
    Edges.fault(NEW, "buyer 1   nobody", 10);
    Edges.fault(NEW, "buyer 1; 5; ?", 9);
    Edges.fault(NEW, "buyer 1 5; ?", 8);
    Edges.fault(NEW, "buyer 99999; ?", 6);
    Edges.fault(NEW, "? buyer 99999", 0);
    Edges.fault(NEW, "thing 9 9 99", 6);
    Edges.fault(NEW, "thing 0 9 99", 8);
    Edges.fault(NEW, "thing 0 5 99", 10);
    Edges.fault(NEW, "likes 9 9 9999", 6);
    Edges.fault(NEW, "price 100 five 496", 6);
    Edges.fault(NEW, "slips 61;rule 11", 6);
  }

  private static void badNumbers() {
    Edges.of(PART, "(also a NUMBER that may not be, or has more than 4 digits;");
    Edges.fault(NEW, "  slips   00060", 10);
    Edges.fault(NEW, "slips 0061", 6);
    Edges.reads(NEW, "slips 0060", 1);
    Edges.fault(NEW, "price 00001", 6);
    Edges.fault(NEW, "price 1 five 00001", 13);
    Edges.fault(NEW, "thing 00000 5 0", 6);
    Edges.fault(NEW, "thing 0 00005 0", 8);
    Edges.fault(NEW, "thing 0 5 00000", 10);
    Edges.reads(NEW, "thing 0000 0005 0000", 1);
    Edges.fault(NEW, "out 00001", 4);
    Edges.fault(NEW, "buyer 12345678901234567890", 6);
  }

  private static void slipsAndRuleThatCant() {
    Edges.of(PART, "slips, rule, if they can't be: their word;");
    for (String word : new String[] {"slips", "rule"}) {
      for (String behind : new String[] {" 9", " 99", "", " ?", " 99999", ";", " x 9"}) {
        Edges.fault(with("thing 0 5 0"), word + behind, 0);
        Edges.fault(NEW, "thing 0 5 0 ;  " + word + behind, 15);
        Edges.fault(EdgesOfTheTape::allWon, "price 5;" + word + behind, 8);
      }
      Edges.reads(with("buyer 5;out 3"), word + " 9", 1);
    }
  }

  private static void noRoom() {
    Edges.of(PART, "what there is no room for: its word;");
    String seven = "thing 0 2 0;thing 0 4 0;thing 0 6 0;thing 0 8 0;thing 0 10 0;thing 0 12 0;thing 0 14 0";
    Edges.reads(with("rule 2;" + seven), "thing 0 16 0", 1);
    Edges.fault(with("rule 2;" + seven), "thing 0 16 0; thing 0 18 0", 14);
    for (String behind : new String[] {" 0 18 0", " 9 18 0", "", ";", " ?"}) {
      Edges.fault(with("rule 2;" + seven + ";thing 0 16 0"), "thing" + behind, 0);
      Edges.fault(with("rule 2;" + seven + ";thing 0 16 0"), "price 5; thing" + behind, 9);
    }
    Edges.reads(with("buyer 1;buyer 1;buyer 1"), "buyer 1", 1);
    Edges.fault(with("buyer 1;buyer 1;buyer 1"), "buyer 1; buyer 1", 9);
    for (String behind : new String[] {" 1", " 99999", "", ";", " ?"}) {
      Edges.fault(with("buyer 1;buyer 1;buyer 1;buyer 1"), "buyer" + behind, 0);
    }
  }

  private static void bytesThatBeginNone() {
    Edges.of(PART, "a byte that begins none);");
    for (char c = 0; c <= 255; c++) {
      boolean begins = "abcdefghijklmnopqrstuvwxyz0123456789; ".indexOf(c) >= 0;
      if (!begins) {
        Edges.fault(NEW, "" + c, 0);
        Edges.fault(NEW, " " + c + c, 1);
        Edges.fault(NEW, "rule 2 " + c, 7);
        Edges.fault(NEW, "rule" + c + "2", 4);
        Edges.fault(NEW, "rule 2;" + c, 7);
      } else {
        Edges.fault(NEW, "" + c, c == ' ' ? 1 : 0);
      }
    }
  }

  private static void endsTooEarly() {
    Edges.of(PART, "THE TAPE's size, if it ends too early.");
    String text = "slips 30;rule 3;price 5 five 6;thing 0 3 0;buyer 5;likes 0 0 9;out 1";
    String[] wholes = {"slips 3", "slips 30", "slips 30;rule 3", "slips 30;rule 3;price 5", "slips 30;rule 3;price 5 five 6",
      "slips 30;rule 3;price 5 five 6;thing 0 3 0", "slips 30;rule 3;price 5 five 6;thing 0 3 0;buyer 5",
      "slips 30;rule 3;price 5 five 6;thing 0 3 0;buyer 5;likes 0 0 9", text};
    for (int size = 0; size <= text.length(); size++) {
      String cut = text.substring(0, size);
      boolean isWhole = java.util.Arrays.asList(wholes).contains(cut.trim());
      boolean isInWord = size > 0 && size < text.length() && Character.isLetter(cut.charAt(size - 1))
          && Character.isLetter(text.charAt(size));
      if (isWhole) {
        Edges.reads(NEW, cut, cut.split(";").length);
      } else if (isInWord) {
        int start = Math.max(cut.lastIndexOf(' '), cut.lastIndexOf(';')) + 1;
        Edges.fault(NEW, cut, start);
      } else {
        Edges.fault(NEW, cut, size);
        Edges.fault(NEW, cut + "  ", size + 2);
      }
    }
    Edges.fault(NEW, filled("", ' ', 250), 250);
    Edges.fault(NEW, filled("buyer", ' ', 250), 250);
  }
}
