import java.util.function.LongSupplier;

/** Counts which answers are due, and helps the tests to tell stalls. */
final class Due {
  private static int right = 0;
  private static int wrong = 0;

  private Due() {
  }

  static void is(String call, long got, long want) {
    if (got == want) {
      right++;
    } else {
      wrong++;
      System.out.println(call + " answered " + got + ", due is " + want);
    }
  }

  static void is(String call, String got, String want) {
    if (got.equals(want)) {
      right++;
    } else {
      wrong++;
      System.out.println(call + " answered " + got + ", due is " + want);
    }
  }

  /** A refused call answers its number and changes nothing but how many refusals of it there were. */
  static void refused(EndsInFive x, String call, LongSupplier made, long want) {
    String before = sight(x);
    int number = (int) (want < -1000000 ? want + 10000000 : want <= -20 ? -2 : want);
    int[] counts = refusals(x);
    is(call, made.getAsLong(), want);
    counts[-2 - number]++;
    is(call + ": all else", sight(x), before);
    for (int i = 0; i < counts.length; i++) {
      is(call + ": refusals " + (-2 - i), x.status(12 + i), counts[i]);
    }
  }

  /** A call that isn't refused leaves the refusals as they were. */
  static void unrefused(EndsInFive x, String call, LongSupplier made, long want) {
    int[] counts = refusals(x);
    is(call, made.getAsLong(), want);
    for (int i = 0; i < counts.length; i++) {
      is(call + ": refusals " + (-2 - i), x.status(12 + i), counts[i]);
    }
  }

  /** A call that tells something changes nothing at all. */
  static void told(EndsInFive x, String call, LongSupplier made, long want) {
    String before = sight(x);
    unrefused(x, call, made, want);
    is(call + ": all else", sight(x), before);
  }

  private static int[] refusals(EndsInFive x) {
    int[] counts = new int[5];
    for (int i = 0; i < 5; i++) {
      counts[i] = x.status(12 + i);
    }
    return counts;
  }

  /** All that can be seen of an object without a refusal, but the refusals themselves. */
  static String sight(EndsInFive x) {
    StringBuilder seen = new StringBuilder();
    for (int what = 0; what <= 11; what++) {
      seen.append(what).append('=').append(x.status(what)).append(' ');
    }
    int price = x.price(0, 1);
    x.price(0, price);
    int five = x.price(1, 1);
    x.price(1, five);
    seen.append("price ").append(price).append(" five ").append(five);
    for (int slip = 1; slip <= x.status(0); slip++) {
      seen.append("; slip ").append(slip);
      for (int what = 0; what < 4; what++) {
        seen.append(' ').append(x.slipOf(slip, what));
      }
    }
    for (int thing = 0; thing < x.status(4); thing++) {
      seen.append("; thing ").append(thing);
      for (int what = 0; what < 5; what++) {
        seen.append(' ').append(x.thingOf(thing, what));
      }
      for (int buyer = 0; buyer < x.status(6); buyer++) {
        seen.append(' ').append(x.thingOf(thing, 10 + buyer));
      }
    }
    for (int buyer = 0; buyer < x.status(6); buyer++) {
      seen.append("; buyer ").append(buyer);
      for (int what = 0; what < 4; what++) {
        seen.append(' ').append(x.buyerOf(buyer, what));
      }
    }
    for (int shelf = 0; shelf < 8; shelf++) {
      seen.append("; shelf ").append(x.holds(shelf));
      for (int i = 0; i < 41; i++) {
        seen.append(' ').append(x.element(shelf, i));
      }
    }
    return seen.toString();
  }

  static void feed(EndsInFive x, String text) {
    for (int i = 0; i < text.length(); i++) {
      x.feed(text.charAt(i));
    }
  }

  /** What stall() answers to a text. */
  static int read(EndsInFive x, String text) {
    feed(x, text);
    return x.stall();
  }

  /** A new object with the stall that a text tells. */
  static EndsInFive stall(String text) {
    EndsInFive x = new EndsInFive();
    int answer = read(x, text);
    if (answer < 1) {
      wrong++;
      System.out.println("the test's own text is no stall (" + answer + "): " + text);
    }
    return x;
  }

  /** Puts a row of slips into a shelf. */
  static void book(EndsInFive x, int shelf, int sort, long... slips) {
    x.row(shelf, sort, slips.length);
    for (int i = 0; i < slips.length; i++) {
      x.set(shelf, i, slips[i]);
    }
  }

  static void end() {
    System.out.println(right + " answers as due, " + wrong + " not");
    System.exit(wrong == 0 && right > 0 ? 0 : 1);
  }
}
