import java.lang.reflect.InvocationTargetException;
import java.lang.reflect.Method;
import java.util.Random;
import java.util.TreeMap;

/** Long runs of calls, each the same on every machine, compared with the model call by call. */
final class ManyRunsTest {
  private static final int RUNS = 500;
  private static final int CALLS = 512;
  private static final String[] DEAR = {"plan", "till", "mean", "atOnce", "chain", "takings", "worth", "fete", "purse",
    "says", "bestPrice"};
  private static final String[] WORDS = {"slips", "rule", "price", "thing", "buyer", "likes", "out", "five", ";", "x", " "};

  private ManyRunsTest() {
  }

  public static void main(String[] args) throws ReflectiveOperationException {
    TreeMap<String, Method> methods = new TreeMap<>();
    for (Method method : EndsInFive.class.getDeclaredMethods()) {
      if (java.lang.reflect.Modifier.isPublic(method.getModifiers())) {
        methods.put(method.getName(), method);
      }
    }
    for (int run = 0; run < RUNS; run++) {
      new Run(run, methods).make();
    }
    Due.end();
  }

  private static final class Run {
    private final int number;
    private final TreeMap<String, Method> methods;
    private final String[] names;
    private final Random random;
    private final EndsInFive x = new EndsInFive();
    private final ModelShelf model = new ModelShelf();
    private final boolean isGreat;
    private int calls = 0;
    private boolean isWrong = false;

    Run(int number, TreeMap<String, Method> methods) {
      this.number = number;
      this.methods = methods;
      this.names = methods.keySet().toArray(new String[0]);
      this.random = new Random(number);
      this.isGreat = number % 8 == 0;
    }

    void make() throws ReflectiveOperationException {
      setUp();
      while (calls < CALLS && !isWrong) {
        String name = names[random.nextInt(names.length)];
        boolean isRare = name.equals("back") || name.equals("go") || name.equals("five") || name.equals("plays");
        if (isRare && random.nextInt(3) != 0) {
          name = DEAR[random.nextInt(DEAR.length)];
        }
        if (name.equals("feed") && random.nextInt(4) == 0) {
          tell();
        } else if (name.equals("row") && random.nextInt(2) == 0) {
          tellBook();
        } else if ((name.equals("slips") || name.equals("rule")) && (isGreat || random.nextInt(4) != 0)) {
          call("fete", random.nextInt(1001));
        } else {
          call(name, arguments(name));
        }
      }
    }

    /** Most runs start with a full stall; some with next to nothing. */
    private void setUp() throws ReflectiveOperationException {
      call("slips", isGreat ? 11 + random.nextInt(50) : 1 + random.nextInt(10));
      int rule = isGreat ? 2 + random.nextInt(9) : 2 + random.nextInt(2);
      call("rule", rule);
      call("price", 0, 1 + random.nextInt(number % 3 == 0 ? 99 : 20));
      if (number % 7 == 0) {
        return;
      }
      if (number % 5 == 0) {
        setUpHeld();
        return;
      }
      int buyers = 1 + random.nextInt(4);
      int things = 1 + random.nextInt(8);
      for (int b = 0; b < buyers; b++) {
        call("buyer", random.nextInt(10000) / (random.nextBoolean() ? 1 : 50));
      }
      for (int t = 0; t < things; t++) {
        call("thing", random.nextInt(6), (t + 1) * rule, random.nextInt(10) / (1 + random.nextInt(5)));
      }
      for (int b = 0; b < buyers; b++) {
        for (int t = 0; t < x.status(4); t++) {
          call("likes", b, t, random.nextInt(1000) / (1 + random.nextInt(30)));
        }
      }
      call("image");
    }

    /** A stall in which a plan can turn to 0 behind some blanks, as ever more slips come free that no one likes. */
    private void setUpHeld() throws ReflectiveOperationException {
      call("slips", 16 + random.nextInt(2));
      call("rule", 2);
      call("price", 0, 1);
      call("buyer", 900);
      for (int t = 0; t < 8; t++) {
        boolean isPlain = t == 0;
        call("thing", isPlain ? 0 : 4, 2 * t + 2, isPlain || random.nextInt(5) != 0 ? 1 : 2);
        call("likes", 0, t, isPlain ? 2 + random.nextInt(4) : random.nextInt(20) / 19);
      }
      call("row", 7, 0, 6);
      for (int i = 0; i < 6; i++) {
        call("set", 7, i, 2 * i + 1);
      }
      call("image");
      for (int n = 1; n <= 6; n++) {
        call("back");
        call("booked", 7, n, 0);
        call("fete", 0);
        call("back");
        for (int i = 0; i < n + 3; i++) {
          tellOut(2 * i + 1);
        }
        call("plan", 0);
        call("till", 0);
      }
    }

    private void tellOut(int slip) throws ReflectiveOperationException {
      call("wipe");
      String text = "out" + slip;
      for (int i = 0; i < text.length(); i++) {
        call("feed", text.charAt(i));
      }
      call("stall");
    }

    private void call(String name, long... w) throws ReflectiveOperationException {
      if (isWrong || calls >= CALLS) {
        return;
      }
      calls++;
      Method method = methods.get(name);
      Object[] told = new Object[w.length];
      StringBuilder text = new StringBuilder("run " + number + ", call " + calls + ": " + name);
      for (int i = 0; i < w.length; i++) {
        told[i] = method.getParameterTypes()[i] == long.class ? (Object) w[i] : (Object) (int) w[i];
        text.append(' ').append(told[i]);
      }
      long got;
      try {
        got = ((Number) method.invoke(x, told)).longValue();
      } catch (InvocationTargetException e) {
        System.out.println(text + " threw " + e.getCause());
        got = Long.MIN_VALUE + 1;
      }
      long want = model.call(name, w);
      Due.is(text.toString(), got, want);
      isWrong = got != want;
    }

    /** A number about right, seldom far off. */
    private int near(int least, int most) {
      int dice = random.nextInt(24);
      if (dice == 0) {
        return new int[] {Integer.MIN_VALUE, Integer.MAX_VALUE, -1, least - 1, most + 1, 0}[random.nextInt(6)];
      }
      return least + random.nextInt(most - least + 1);
    }

    private int someone() {
      return near(0, Math.max(0, x.status(6) - 1));
    }

    private int something() {
      return near(0, Math.max(0, x.status(4) - 1));
    }

    private int someSlip() {
      return near(1, Math.max(1, x.status(0)));
    }

    private long[] arguments(String name) {
      switch (name) {
        case "row":
          return new long[] {near(0, 7), near(0, 4), near(0, 40)};
        case "set":
          return new long[] {near(0, 7), near(0, 9), random.nextInt(3) == 0 ? random.nextLong() : someSlip()};
        case "copy":
          return new long[] {near(0, 7), near(0, 7), near(0, 6), near(0, 6), near(0, 6)};
        case "element":
          return new long[] {near(0, 7), near(0, 40)};
        case "show":
          return new long[] {near(0, 7), random.nextInt(5) == 0 ? -1 : something()};
        case "says":
          return new long[] {near(0, 7), near(0, 5)};
        case "slips":
          return new long[] {near(1, 10)};
        case "rule":
          return new long[] {near(2, 10)};
        case "price":
          return random.nextBoolean() ? new long[] {0, near(1, 99)} : new long[] {near(0, 1), near(1, 495)};
        case "thing":
          return new long[] {near(0, 5), random.nextInt(3) == 0 ? someSlip() : x.status(1) * near(1, 6), near(0, 9) / 3};
        case "buyer":
          return new long[] {near(0, 9999)};
        case "likes":
          return new long[] {someone(), something(), near(0, 999)};
        case "purse":
          return new long[] {someone(), near(0, random.nextBoolean() ? 9999 : 60)};
        case "feed":
          return new long[] {near(0, 255)};
        case "thingOf":
          return new long[] {something(), near(0, 14)};
        case "buyerOf":
          return new long[] {someone(), near(0, 3)};
        case "slipOf":
          return new long[] {someSlip(), near(0, 3)};
        case "wins":
          return new long[] {someSlip()};
        case "mean":
          return new long[] {someone(), near(0, 8)};
        case "takings":
          return new long[] {random.nextBoolean() ? near(1, 99) : near(1, 12)};
        case "guess":
          return new long[] {near(0, 4), near(0, 1)};
        case "suspect":
          return new long[] {near(1, 60), near(0, 60)};
        case "sure":
          return new long[] {near(1, 60), near(0, 1000000)};
        case "left":
          return new long[] {near(0, 10)};
        case "judge":
        case "won":
          return new long[] {near(0, 7), near(0, 6)};
        case "booked":
          return new long[] {near(0, 7), near(0, 4), someone()};
        case "chain":
        case "fondest":
          return new long[] {something()};
        case "holds":
          return new long[] {near(0, 7)};
        case "fete":
          return new long[] {random.nextBoolean() ? 1000 : near(0, 1000)};
        case "seed":
          return new long[] {random.nextInt()};
        case "status":
          return new long[] {near(0, 16)};
        default:
          boolean ofBuyer = methods.get(name).getParameterCount() == 1;
          return ofBuyer ? new long[] {someone()} : new long[0];
      }
    }

    /** A row of slips, most of which can be drawn. */
    private void tellBook() throws ReflectiveOperationException {
      int s = random.nextInt(8);
      int n = 1 + random.nextInt(5);
      int start = someSlip();
      call("row", s, random.nextInt(4), n);
      for (int i = 0; i < n; i++) {
        call("set", s, i, random.nextInt(9) == 0 ? someSlip() : 1 + (start + (long) i) % Math.max(1, x.status(0)));
      }
      call("judge", s, n);
      call("won", s, n);
      if (random.nextInt(3) == 0) {
        call("booked", s, n, someone());
      }
    }

    private void tell() throws ReflectiveOperationException {
      if (random.nextInt(5) != 0) {
        call("wipe");
      }
      StringBuilder text = new StringBuilder();
      int count = 1 + random.nextInt(4);
      for (int k = 0; k < count; k++) {
        text.append(k == 0 ? "" : ";");
        statement(text);
      }
      if (random.nextInt(4) == 0) {
        spoil(text);
      }
      for (int i = 0; i < text.length(); i++) {
        call("feed", text.charAt(i));
      }
      call("stall");
    }

    private void statement(StringBuilder text) {
      int rule = Math.max(1, x.status(1));
      switch (x.status(4) > 0 && random.nextInt(9) != 0 ? 2 + random.nextInt(10) : random.nextInt(12)) {
        case 0:
          text.append("slips ").append(near(1, 60) & 63);
          break;
        case 1:
          text.append("rule ").append(near(2, 10) & 15);
          break;
        case 2:
          text.append("price ").append(near(1, 99) & 127).append(random.nextBoolean() ? " five 55" : "");
          break;
        case 3:
        case 4:
          text.append("buyer ").append(near(0, 9999) & 16383);
          break;
        case 5:
        case 6:
          text.append("likes ").append(someone() & 7).append(' ').append(something() & 15).append(' ')
              .append(random.nextInt(1000));
          break;
        case 7:
          text.append("out ").append(someSlip() & 63);
          break;
        default:
          text.append("thing ").append(random.nextInt(6)).append(' ').append(rule * (1 + random.nextInt(6)))
              .append(' ').append(random.nextInt(4));
          break;
      }
    }

    private void spoil(StringBuilder text) {
      int at = random.nextInt(text.length());
      switch (random.nextInt(4)) {
        case 0:
          text.deleteCharAt(at);
          break;
        case 1:
          text.insert(at, WORDS[random.nextInt(WORDS.length)]);
          break;
        case 2:
          text.setCharAt(at, (char) random.nextInt(256));
          break;
        default:
          text.setLength(at);
          break;
      }
    }
  }
}
