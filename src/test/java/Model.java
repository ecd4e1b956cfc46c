import java.util.ArrayList;
import java.util.HashMap;
import java.util.List;
import java.util.TreeSet;

/**
 * The stall as the document tells it, written slip by slip and apart from the class, for the tests to
 * compare with: goes are tried one slip at a time on states that know every slip.
 */
final class Model {
  /** A state in thought or in truth: which slips are in, which things stand, how many goes there were. */
  record State(TreeSet<Integer> in, TreeSet<Integer> standing, int goes) {
    State copy() {
      return new State(new TreeSet<>(in), new TreeSet<>(standing), goes);
    }
  }

  static final class Thing {
    int kind;
    int slip;
    int a;
    int age;
    int owner = -1;
  }

  static final class Buyer {
    int purse;
    int[] likes = new int[8];
  }

  int slips = 20;
  int rule = 5;
  int price = 10;
  int five = 40;
  int goes = 0;
  int taken = 0;
  int seed = 1;
  TreeSet<Integer> in = new TreeSet<>();
  List<Thing> things = new ArrayList<>();
  List<Buyer> buyers = new ArrayList<>();

  Model() {
    allIn();
  }

  void allIn() {
    in.clear();
    for (int s = 1; s <= slips; s++) {
      in.add(s);
    }
  }

  Model copy() {
    Model c = new Model();
    c.slips = slips;
    c.rule = rule;
    c.price = price;
    c.five = five;
    c.goes = goes;
    c.taken = taken;
    c.seed = seed;
    c.in = new TreeSet<>(in);
    for (Thing t : things) {
      Thing u = new Thing();
      u.kind = t.kind;
      u.slip = t.slip;
      u.a = t.a;
      u.age = t.age;
      u.owner = t.owner;
      c.things.add(u);
    }
    for (Buyer b : buyers) {
      Buyer d = new Buyer();
      d.purse = b.purse;
      d.likes = b.likes.clone();
      c.buyers.add(d);
    }
    return c;
  }

  static boolean under(int kind, int wanted) {
    if (kind == wanted || wanted == 0) {
      return true;
    }
    return kind == 3 && wanted == 1 || kind == 5 && wanted == 4;
  }

  State now() {
    TreeSet<Integer> standing = new TreeSet<>();
    for (int t = 0; t < things.size(); t++) {
      if (things.get(t).owner < 0) {
        standing.add(t);
      }
    }
    return new State(new TreeSet<>(in), standing, goes);
  }

  int thingOn(int slip) {
    for (int t = 0; t < things.size(); t++) {
      if (things.get(t).slip == slip) {
        return t;
      }
    }
    return -1;
  }

  boolean drawable(State s, int slip) {
    if (!s.in.contains(slip)) {
      return false;
    }
    int t = thingOn(slip);
    if (t < 0 || !s.standing.contains(t)) {
      return true;
    }
    Thing thing = things.get(t);
    if (under(thing.kind, 4) && s.goes < thing.a * 2) {
      return false;
    }
    return thing.kind != 5 || 2 * s.in.size() <= slips;
  }

  List<Integer> drawables(State s) {
    List<Integer> found = new ArrayList<>();
    for (int slip = 1; slip <= slips; slip++) {
      if (drawable(s, slip)) {
        found.add(slip);
      }
    }
    return found;
  }

  /** The things that are won by a slip, in the order in which they are. */
  List<Integer> won(State s, int slip) {
    List<Integer> found = new ArrayList<>();
    int t = thingOn(slip);
    if (t < 0 || !s.standing.contains(t)) {
      return found;
    }
    found.add(t);
    if (things.get(t).kind == 3) {
      for (int u : s.standing) {
        if (u != t && things.get(u).kind != 1 && things.get(u).kind != 3) {
          found.add(u);
          break;
        }
      }
    }
    return found;
  }

  State behind(State s, int slip) {
    TreeSet<Integer> in2 = new TreeSet<>(s.in);
    TreeSet<Integer> standing2 = new TreeSet<>(s.standing);
    in2.remove(slip);
    standing2.removeAll(won(s, slip));
    return new State(in2, standing2, s.goes + 1);
  }

  long liked(int buyer, Iterable<Integer> them) {
    long sum = 0;
    for (int t : them) {
      sum += buyers.get(buyer).likes[t];
    }
    return sum;
  }

  static int bits(Iterable<Integer> them) {
    int bits = 0;
    for (int t : them) {
      bits |= 1 << t;
    }
    return bits;
  }

  long worth(int buyer) {
    State s = now();
    List<Integer> can = drawables(s);
    long sum = 0;
    for (int slip : can) {
      sum += liked(buyer, won(s, slip));
    }
    return can.isEmpty() ? 0 : 1000 * sum / can.size();
  }

  /** What tells states apart: every slip that is in, or, for the great drums, how many blanks are. */
  private String key(State s, int m) {
    if (slips <= 10) {
      return s.in + "/" + s.standing + "/" + m;
    }
    return s.in.size() + "/" + s.standing + "/" + s.goes + "/" + m;
  }

  /** PLAN from a state on, if m is -1; else MEAN of m goes. */
  long value(int buyer, State s, int m, HashMap<String, Long> known) {
    if (m == 0) {
      return 0;
    }
    List<Integer> can = drawables(s);
    if (can.isEmpty()) {
      return 0;
    }
    String key = key(s, m);
    Long before = known.get(key);
    if (before != null) {
      return before;
    }
    long sum = 0;
    for (int slip : can) {
      sum += 1000 * liked(buyer, won(s, slip)) + value(buyer, behind(s, slip), m < 0 ? m : m - 1, known);
    }
    long value = sum / can.size();
    if (m < 0) {
      value = Math.max(0, value - 1000L * price);
    }
    known.put(key, value);
    return value;
  }

  long plan(int buyer) {
    return value(buyer, now(), -1, new HashMap<>());
  }

  long mean(int buyer, int m) {
    return value(buyer, now(), m, new HashMap<>());
  }

  int till(int buyer) {
    HashMap<String, Long> known = new HashMap<>();
    State s = now();
    for (int k = 0;; k++) {
      if (value(buyer, s, -1, known) == 0) {
        return k;
      }
      int blank = -1;
      for (int slip : s.in) {
        int t = thingOn(slip);
        if (t < 0 || !s.standing.contains(t)) {
          blank = slip;
        }
      }
      if (blank < 0) {
        return 60;
      }
      s = behind(s, blank);
    }
  }

  int chain(int thing) {
    State first = now();
    if (!first.standing.contains(thing)) {
      return 0;
    }
    HashMap<String, State> layer = new HashMap<>();
    layer.put(key(first, 0), first);
    for (int k = 1; k <= 12; k++) {
      HashMap<String, State> next = new HashMap<>();
      for (State s : layer.values()) {
        for (int slip : drawables(s)) {
          if (won(s, slip).contains(thing)) {
            return k;
          }
          State t = behind(s, slip);
          next.put(key(t, 0), t);
        }
      }
      layer = next;
    }
    return -1;
  }

  long takings(int told) {
    int stock = in.size();
    long all = 0;
    for (int b = 0; b < buyers.size(); b++) {
      if (worth(b) < 1000L * told) {
        continue;
      }
      for (int left = buyers.get(b).purse; left >= told && stock > 0; left -= told) {
        all += told;
        stock--;
      }
    }
    return all;
  }

  /** In truth: what is won by a slip is the buyer's. */
  int take(int slip, int buyer) {
    State s = now();
    List<Integer> them = won(s, slip);
    for (int t : them) {
      things.get(t).owner = buyer;
      if (things.get(t).kind == 2) {
        things.get(t).age++;
      }
    }
    in.remove(slip);
    goes++;
    return bits(them);
  }

  int draw() {
    List<Integer> can = drawables(now());
    seed = seed * 1103515245 + 12345;
    return can.get((seed >> 16 & 65535) % can.size());
  }
}
