import java.lang.management.ManagementFactory;
import java.lang.reflect.Array;
import java.lang.reflect.Field;
import java.lang.reflect.Modifier;
import java.util.function.IntUnaryOperator;

/** 512 calls of the dear ones on the greatest stalls: they end in good time, and find place in the one room. */
final class DearRunsTest {
  private static final int CALLS = 512;
  private static final long MOST_SECONDS = 60;
  /** What the 512 calls of one object may take: bytes, as this machine counts them. */
  private static final long MOST_OF_CALLS = 20_000;
  /** The one room of all calls of a run: even a run of nothing but new objects must find place in it. */
  private static final long OBJECTS_OF_ROOM = 600_000;
  private static final long ELEMENTS_OF_ROOM = 7_300_000;

  private DearRunsTest() {
  }

  private static EndsInFive great(int kind) {
    EndsInFive x = new EndsInFive();
    x.slips(60);
    x.rule(2);
    for (int t = 0; t < 8; t++) {
      x.thing(kind < 0 ? t % 6 : kind, 2 * t + 2, t % 5);
    }
    for (int b = 0; b < 4; b++) {
      x.buyer(9999);
      for (int t = 0; t < 8; t++) {
        x.likes(b, t, 999 - 7 * t - b);
      }
    }
    x.price(0, 1);
    x.image();
    return x;
  }

  private static void run(String name, EndsInFive x, IntUnaryOperator call, long due) {
    long start = System.nanoTime();
    long sum = 0;
    long before = made();
    for (int i = 0; i < CALLS; i++) {
      sum += call.applyAsInt(i);
    }
    long bytes = made() - before;
    long seconds = (System.nanoTime() - start) / 1_000_000_000L;
    Due.is(name + ": all answers together", sum, due);
    Due.is(name + ": in good time", seconds <= MOST_SECONDS ? 0 : seconds, 0);
    Due.is(name + ": next to nothing is made", bytes <= MOST_OF_CALLS ? 0 : bytes, 0);
    Due.is(name + ": the stall is whole", x.status(0), 60);
  }

  /** The bytes that this thread has made so far. */
  private static long made() {
    return ((com.sun.management.ThreadMXBean) ManagementFactory.getThreadMXBean())
        .getThreadAllocatedBytes(Thread.currentThread().getId());
  }

  private static int playsAnew(EndsInFive x, int buyer) {
    x.back();
    return x.plays(buyer);
  }

  public static void main(String[] args) throws IllegalAccessException {
    for (int kind : new int[] {-1, 0, 3, 5}) {
      EndsInFive x = great(kind);
      String of = " of kind " + kind;
      run("plan" + of, x, i -> x.plan(i & 3), 128L * (x.plan(0) + x.plan(1) + x.plan(2) + x.plan(3)));
      run("till" + of, x, i -> x.till(i & 3), 512L * 60);
      run("atOnce" + of, x, i -> x.atOnce(0), 512L * x.atOnce(0));
      run("mean" + of, x, i -> x.mean(1, 8), 512L * x.mean(1, 8));
      run("chain" + of, x, i -> x.chain(7), 512L * x.chain(7));
      // Sunk things can't be drawn yet: a go is worth nothing.
      run("takings" + of, x, i -> x.takings(1), kind == 5 ? 0 : 512L * 60);
      run("bestPrice" + of, x, i -> x.bestPrice(), 512L * x.bestPrice());
      run("plays" + of, x, i -> playsAnew(x, 0), 512L * playsAnew(x, 0));
      x.back();
      run("five and fete" + of, x, i -> i % 13 == 12 ? 0 * x.fete(1000) : Math.min(0, x.five(i & 3)), 0);
    }
    readsLongTexts();
    judgesLongBooks();
    makesLittle();
    Due.end();
  }

  private static void readsLongTexts() {
    EndsInFive x = great(0);
    x.slips(60);
    run("feed and stall", x, i -> i % 251 == 250 ? x.stall() : Math.min(0, x.feed(i % 5 == 4 ? ';' : "rule".charAt(i % 5))),
        -20L - 20L);
  }

  private static void judgesLongBooks() {
    EndsInFive x = great(0);
    x.row(0, 0, 40);
    for (int i = 0; i < 40; i++) {
      x.set(0, i, i + 1);
    }
    run("judge", x, i -> x.judge(0, 40), -512);
    run("won", x, i -> x.won(0, 40), 512L * 255);
    x.fete(0);
    run("booked", x, i -> x.booked(0, 40, 0) + x.back(), 512L * 256);
    run("row", x, i -> x.row(i & 7, i % 5, 40), 512);
  }

  private static void makesLittle() throws IllegalAccessException {
    EndsInFive first = new EndsInFive();
    EndsInFive second = new EndsInFive();
    long[] room = new long[2];
    measure(second, room);
    Due.is("a new object has objects and arrays", room[0] > 1 ? 0 : room[0], 0);
    Due.is("objects and arrays of a new object", CALLS * room[0] <= OBJECTS_OF_ROOM ? 0 : room[0], 0);
    Due.is("fields and elements of a new object", CALLS * room[1] <= ELEMENTS_OF_ROOM ? 0 : room[1], 0);
    Due.is("objects share nothing", first.slips(7) + second.slips(8), 40);
    Due.is("the first has its own", first.status(0), 7);
  }

  /** Adds the objects and arrays that one holds, and their fields and elements; the class makes no rings. */
  private static void measure(Object one, long[] room) throws IllegalAccessException {
    if (one == null) {
      return;
    }
    room[0]++;
    Class<?> type = one.getClass();
    if (type.isArray()) {
      int length = Array.getLength(one);
      room[1] += length;
      for (int i = 0; i < length && !type.getComponentType().isPrimitive(); i++) {
        measure(Array.get(one, i), room);
      }
      return;
    }
    for (Field field : type.getDeclaredFields()) {
      if (Modifier.isStatic(field.getModifiers())) {
        continue;
      }
      room[1]++;
      if (!field.getType().isPrimitive()) {
        field.setAccessible(true);
        measure(field.get(one), room);
      }
    }
  }
}
