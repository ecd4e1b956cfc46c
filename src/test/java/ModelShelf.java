import java.util.HashMap;
import java.util.List;
import java.util.TreeSet;

/** The whole face over the model, call by call, with its refusals. */
final class ModelShelf {
  private Model m = new Model();
  private Model kept = null;
  private final long[][] rows = new long[8][];
  private final int[] content = {-1, -1, -1, -1, -1, -1, -1, -1};
  private StringBuilder tape = new StringBuilder();
  private final int[] refusals = new int[5];

  private long no(int number) {
    refusals[-2 - number]++;
    return number;
  }

  private boolean shelf(int s) {
    return s >= 0 && s < 8;
  }

  private boolean thing(int t) {
    return t >= 0 && t < m.things.size();
  }

  private boolean buyer(int b) {
    return b >= 0 && b < m.buyers.size();
  }

  private boolean slip(int s) {
    return s >= 1 && s <= m.slips;
  }

  private static boolean in(long v, long a, long b) {
    return v >= a && v <= b;
  }

  /** The call by its name, with as many arguments as it takes. */
  long call(String name, long[] w) {
    int a = w.length > 0 ? (int) w[0] : 0;
    int b = w.length > 1 ? (int) w[1] : 0;
    int c = w.length > 2 ? (int) w[2] : 0;
    switch (name) {
      case "row":
        if (!shelf(a) || !in(b, 0, 4) || !in(c, 0, 40)) {
          return no(-2);
        }
        rows[a] = new long[c];
        content[a] = b;
        return 1;
      case "set":
        return set(a, b, w[2]);
      case "copy":
        return copy(a, b, c, (int) w[3], (int) w[4]);
      case "element":
        return shelf(a) && in(content[a], 0, 4) && in(b, 0, rows[a].length - 1) ? rows[a][b] : 0;
      case "holds":
        return shelf(a) ? content[a] : -1;
      case "show":
        if (!shelf(a) || b != -1 && !thing(b)) {
          return no(-2);
        }
        content[a] = b == -1 ? -1 : 10 + b;
        return 1;
      case "says":
        return says(a, b);
      case "slips":
      case "rule":
        return slipsOrRule(name, a);
      case "price":
        return price(a, b);
      case "thing":
        return newThing(a, b, c);
      case "buyer":
        return newBuyer(a);
      case "likes":
      case "purse":
        return likesOrPurse(name, a, b, c);
      case "feed":
        if (!in(a, 0, 255)) {
          return no(-2);
        }
        if (tape.length() == 250) {
          return no(-6);
        }
        return tape.append((char) a).length();
      case "wipe":
      case "stall":
        String text = tape.toString();
        tape = new StringBuilder();
        return name.equals("wipe") ? text.length() : stall(text);
      default:
        return look(name, a, b, c);
    }
  }

  private long set(int s, int i, long v) {
    if (!shelf(s)) {
      return no(-2);
    }
    if (content[s] >= 10) {
      return no(-3);
    }
    if (content[s] < 0) {
      return no(-4);
    }
    if (!in(i, 0, rows[s].length - 1)) {
      return no(-2);
    }
    long[] kinds = {(byte) v, (short) v, (int) v, v, v == 0 ? 0 : 1};
    rows[s][i] = kinds[content[s]];
    return 1;
  }

  private long copy(int p, int q, int i, int j, int n) {
    if (!shelf(p) || !shelf(q)) {
      return no(-2);
    }
    if (content[p] >= 10 || content[q] >= 10 || content[p] >= 0 && content[q] >= 0 && content[p] != content[q]) {
      return no(-3);
    }
    if (content[p] < 0 || content[q] < 0) {
      return no(-4);
    }
    if (i < 0 || j < 0 || n < 0 || (long) i + n > rows[p].length || (long) j + n > rows[q].length) {
      return no(-2);
    }
    long[] were = rows[p].clone();
    for (int k = 0; k < n; k++) {
      rows[q][j + k] = were[i + k];
    }
    return n;
  }

  private long says(int s, int kind) {
    if (!shelf(s) || !in(kind, 0, 5)) {
      return no(-2);
    }
    if (in(content[s], 0, 4)) {
      return no(-3);
    }
    if (content[s] < 0) {
      return no(-4);
    }
    int t = content[s] - 10;
    Model.Thing it = m.things.get(t);
    if (!Model.under(it.kind, kind)) {
      return no(-3);
    }
    switch (kind) {
      case 0:
        long sum = 0;
        for (int b = 0; b < m.buyers.size(); b++) {
          sum += m.buyers.get(b).likes[t];
        }
        return sum;
      case 1:
        return it.owner < 0 ? 1 : 0;
      case 2:
        return it.age;
      case 3:
        for (int u : m.now().standing()) {
          if (m.things.get(u).kind != 1 && m.things.get(u).kind != 3) {
            return u;
          }
        }
        return -1;
      case 4:
        return Math.max(0, it.a * 2 - m.goes);
      default:
        int more = 0;
        while (2 * (m.in.size() - more) > m.slips) {
          more++;
        }
        return more;
    }
  }

  private long slipsOrRule(String name, int v) {
    boolean isSlips = name.equals("slips");
    if (isSlips ? !in(v, 1, 60) : !in(v, 2, 10)) {
      return no(-2);
    }
    if (!m.things.isEmpty()) {
      return no(-5);
    }
    int before = isSlips ? m.slips : m.rule;
    if (isSlips) {
      m.slips = v;
      m.allIn();
    } else {
      m.rule = v;
    }
    return before;
  }

  private long price(int what, int v) {
    int before = what == 0 ? m.price : m.five;
    if (what == 0 && in(v, 1, 99)) {
      m.price = v;
      return before;
    }
    if (what == 1 && in(v, 1, 495)) {
      m.five = v;
      return before;
    }
    return no(-2);
  }

  private boolean free(int slip) {
    return slip(slip) && slip % m.rule == 0 && m.in.contains(slip) && m.thingOn(slip) < 0;
  }

  private long newThing(int kind, int slip, int a) {
    if (!in(kind, 0, 5) || !slip(slip) || slip % m.rule != 0 || !in(a, 0, 9)) {
      return no(-2);
    }
    if (!free(slip)) {
      return no(-5);
    }
    if (m.things.size() == 8) {
      return no(-6);
    }
    Model.Thing t = new Model.Thing();
    t.kind = kind;
    t.slip = slip;
    t.a = a;
    m.things.add(t);
    return m.things.size() - 1;
  }

  private long newBuyer(int purse) {
    if (!in(purse, 0, 9999)) {
      return no(-2);
    }
    if (m.buyers.size() == 4) {
      return no(-6);
    }
    Model.Buyer b = new Model.Buyer();
    b.purse = purse;
    m.buyers.add(b);
    return m.buyers.size() - 1;
  }

  private long likesOrPurse(String name, int b, int c, int d) {
    long before;
    if (name.equals("purse")) {
      if (!buyer(b) || !in(c, 0, 9999)) {
        return no(-2);
      }
      before = m.buyers.get(b).purse;
      m.buyers.get(b).purse = c;
    } else {
      if (!buyer(b) || !thing(c) || !in(d, 0, 999)) {
        return no(-2);
      }
      before = m.buyers.get(b).likes[c];
      m.buyers.get(b).likes[c] = d;
    }
    return before;
  }

  // ---- texts: a pattern of what each statement wants, read over a list of tokens with their places

  private long stall(String text) {
    Model was = m;
    m = m.copy();
    long answer = new Reading(text).all();
    if (answer < 0) {
      m = was;
      no(-2);
    }
    return answer;
  }

  private final class Reading {
    private final String text;
    private int at = 0;
    private String token = "";
    private int place = 0;

    Reading(String text) {
      this.text = text;
      next();
    }

    private void next() {
      String rest = text.substring(at).replaceFirst("^ +", "");
      place = text.length() - rest.length();
      java.util.regex.Matcher found = java.util.regex.Pattern.compile("^([a-z]+|[0-9]+|(?s:.))").matcher(rest);
      token = found.find() ? found.group() : "";
      at = place + token.length();
    }

    private boolean number(int least, int most) {
      next();
      return token.matches("[0-9]{1,4}") && in(Integer.parseInt(token), least, most);
    }

    long all() {
      for (int count = 1;; count++) {
        if (!statement()) {
          return -20 - place;
        }
        if (token.isEmpty()) {
          return count;
        }
        if (!token.equals(";")) {
          return -20 - place;
        }
        next();
      }
    }

    private boolean statement() {
      int[] w = new int[3];
      String word = token;
      boolean empty = m.things.isEmpty();
      boolean room = !word.equals("thing") || m.things.size() < 8;
      room &= !word.equals("buyer") || m.buyers.size() < 4;
      room &= !word.equals("slips") && !word.equals("rule") || empty;
      if (!room || !List.of("slips", "rule", "price", "thing", "buyer", "likes", "out").contains(word)) {
        return false;
      }
      int[][] limits = {{1, 60}, {2, 10}, {1, 99}, {0, 5}, {0, 9999}, {0, m.buyers.size() - 1}, {1, m.slips}};
      int[] limit = limits[List.of("slips", "rule", "price", "thing", "buyer", "likes", "out").indexOf(word)];
      if (!number(limit[0], limit[1])) {
        return false;
      }
      w[0] = Integer.parseInt(token);
      if (word.equals("out")) {
        int t = m.thingOn(w[0]);
        if (!m.in.contains(w[0]) || t >= 0 && m.things.get(t).owner < 0) {
          return false;
        }
        m.in.remove(w[0]);
      } else if (word.equals("thing")) {
        if (!number(1, 60) || !free(Integer.parseInt(token))) {
          return false;
        }
        w[1] = Integer.parseInt(token);
        if (!number(0, 9)) {
          return false;
        }
        newThing(w[0], w[1], Integer.parseInt(token));
      } else if (word.equals("likes")) {
        if (!number(0, m.things.size() - 1)) {
          return false;
        }
        w[1] = Integer.parseInt(token);
        if (!number(0, 999)) {
          return false;
        }
        m.buyers.get(w[0]).likes[w[1]] = Integer.parseInt(token);
      } else if (word.equals("buyer")) {
        newBuyer(w[0]);
      } else if (word.equals("price")) {
        m.price = w[0];
        next();
        if (!token.equals("five")) {
          return true;
        }
        if (!number(1, 495)) {
          return false;
        }
        m.five = Integer.parseInt(token);
      } else {
        slipsOrRule(word, w[0]);
      }
      next();
      return true;
    }
  }

  // ---- what there is and what comes of it

  private long look(String name, int a, int b, int c) {
    Model.State now = m.now();
    switch (name) {
      case "thingOf":
        return thingOf(a, b);
      case "buyerOf":
        return buyerOf(a, b);
      case "slipOf":
        if (!slip(a) || !in(b, 0, 3)) {
          return no(-2);
        }
        boolean[] facts = {m.in.contains(a), a % m.rule == 0, m.drawable(now, a)};
        return b == 3 ? m.thingOn(a) : facts[b] ? 1 : 0;
      case "drawable":
        return m.drawables(now).size();
      case "wins":
        if (!slip(a)) {
          return no(-2);
        }
        return m.drawable(now, a) ? Model.bits(m.won(now, a)) : no(-5);
      case "worth":
        return buyer(a) ? m.worth(a) : no(-2);
      case "plan":
        return buyer(a) ? m.plan(a) : no(-2);
      case "till":
        return buyer(a) ? m.till(a) : no(-2);
      case "atOnce":
        return buyer(a) ? m.mean(a, 5) - 1000L * m.five : no(-2) - 10000000;
      case "mean":
        return buyer(a) && in(b, 0, 8) ? m.mean(a, b) : no(-2);
      case "all":
        return buyer(a) ? m.liked(a, now.standing()) - (long) m.price * m.in.size() : no(-2) - 10000000;
      case "takings":
        return in(a, 1, 99) ? m.takings(a) : no(-2);
      case "bestPrice":
        int best = 5;
        for (int p = 95; p >= 5; p -= 5) {
          best = m.takings(p) >= m.takings(best) ? p : best;
        }
        return best;
      case "full":
        return quarters(m.in.size());
      case "guess":
        return guess(a, b);
      case "suspect":
        return in(a, 1, 60) && in(b, 0, a) ? 1000000L * a / (2 * a - b) : no(-2);
      case "sure":
        if (!in(a, 1, 60) || !in(b, 0, 1000000)) {
          return no(-2);
        }
        long k = 0;
        while (1000000L * a / (2 * a - k) < b) {
          k++;
        }
        return k;
      case "left":
        return left(a);
      case "judge":
      case "won":
      case "booked":
        return book(name, a, b, c);
      default:
        return truth(name, a);
    }
  }

  private long thingOf(int t, int what) {
    if (!thing(t)) {
      return no(-2);
    }
    Model.Thing it = m.things.get(t);
    long[] facts = {it.kind, it.slip, it.a, it.age, it.owner};
    if (in(what, 0, 4)) {
      return facts[what];
    }
    return in(what, 10, 9 + m.buyers.size()) ? m.buyers.get(what - 10).likes[t] : no(-2);
  }

  private TreeSet<Integer> had(int b) {
    TreeSet<Integer> found = new TreeSet<>();
    for (int t = 0; t < m.things.size(); t++) {
      if (m.things.get(t).owner == b) {
        found.add(t);
      }
    }
    return found;
  }

  private long buyerOf(int b, int what) {
    if (!buyer(b) || !in(what, 0, 3)) {
      return no(-2);
    }
    long[] facts = {m.buyers.get(b).purse, Model.bits(had(b)), m.liked(b, had(b)), m.liked(b, m.now().standing())};
    return facts[what];
  }

  private long quarters(int count) {
    long q = 0;
    while (q * m.slips < 4L * count) {
      q++;
    }
    return q;
  }

  private long guess(int q, int what) {
    if (!in(q, 0, 4) || !in(what, 0, 1)) {
      return no(-2);
    }
    TreeSet<Integer> fit = new TreeSet<>();
    for (int i = 0; i <= m.slips; i++) {
      if (quarters(i) == q) {
        fit.add(i);
      }
    }
    return fit.isEmpty() ? no(-5) : what == 0 ? fit.first() : fit.last();
  }

  private long left(int k) {
    if (!in(k, 0, m.in.size())) {
      return no(-2);
    }
    for (int t : m.now().standing()) {
      if (m.things.get(t).kind >= 3) {
        return no(-5);
      }
    }
    return m.in.isEmpty() ? 0 : 1000L * m.now().standing().size() * (m.in.size() - k) / m.in.size();
  }

  private long book(String name, int s, int n, int b) {
    boolean booked = name.equals("booked");
    if (!shelf(s) || !in(n, 0, 40) || booked && !buyer(b)) {
      return no(-2);
    }
    if (content[s] >= 10) {
      return no(-3);
    }
    if (content[s] < 0) {
      return no(-4);
    }
    if (n > rows[s].length) {
      return no(-2);
    }
    Model.State state = m.now();
    int wrong = -1;
    TreeSet<Integer> won = new TreeSet<>();
    for (int i = 0; i < n && wrong < 0; i++) {
      long v = rows[s][i];
      if (!in(v, 1, 60) || !m.drawable(state, (int) v)) {
        wrong = i;
      } else {
        won.addAll(m.won(state, (int) v));
        state = m.behind(state, (int) v);
      }
    }
    if (name.equals("judge")) {
      return wrong;
    }
    if (wrong >= 0 || booked && m.buyers.get(b).purse < n * m.price) {
      return no(-5);
    }
    for (int i = 0; i < n && booked; i++) {
      m.take((int) rows[s][i], b);
      pay(b, m.price);
    }
    return Model.bits(won);
  }

  private void pay(int b, int cost) {
    m.buyers.get(b).purse -= cost;
    m.taken += cost;
  }

  private long truth(String name, int a) {
    switch (name) {
      case "chain":
        return thing(a) ? m.chain(a) : no(-2);
      case "dearest":
        if (!buyer(a)) {
          return no(-2);
        }
        long best = -1;
        for (int t : m.now().standing().descendingSet()) {
          best = best < 0 || m.buyers.get(a).likes[t] >= m.buyers.get(a).likes[(int) best] ? t : best;
        }
        return best;
      case "fondest":
        if (!thing(a)) {
          return no(-2);
        }
        long who = -1;
        for (int b = m.buyers.size() - 1; b >= 0; b--) {
          who = who < 0 || m.buyers.get(b).likes[a] >= m.buyers.get((int) who).likes[a] ? b : who;
        }
        return who < 0 ? no(-5) : who;
      case "envy":
        long pairs = 0;
        for (int b = 0; b < m.buyers.size(); b++) {
          for (int d = 0; d < m.buyers.size(); d++) {
            pairs += m.liked(b, had(d)) > m.liked(b, had(b)) ? 1 : 0;
          }
        }
        return pairs;
      case "poorest":
        long poor = -1;
        for (int b = m.buyers.size() - 1; b >= 0; b--) {
          poor = poor < 0 || m.buyers.get(b).purse <= m.buyers.get((int) poor).purse ? b : poor;
        }
        return poor < 0 ? no(-5) : poor;
      case "oldest":
        long old = -1;
        for (int t = m.things.size() - 1; t >= 0; t--) {
          old = old < 0 || m.things.get(t).age >= m.things.get((int) old).age ? t : old;
        }
        return old < 0 ? no(-5) : old;
      case "go":
      case "five":
        return goes(name, a);
      case "plays":
        return plays(a);
      default:
        return rest(name, a);
    }
  }

  private long goes(String name, int b) {
    if (!buyer(b)) {
      return no(-2);
    }
    boolean isGo = name.equals("go");
    int cost = isGo ? m.price : m.five;
    if (m.buyers.get(b).purse < cost || m.drawables(m.now()).isEmpty()) {
      return no(-5);
    }
    pay(b, cost);
    int won = 0;
    int slip = 0;
    for (int k = 0; k < (isGo ? 1 : 5) && !m.drawables(m.now()).isEmpty(); k++) {
      slip = m.draw();
      won |= m.take(slip, b);
    }
    return isGo ? slip : won;
  }

  private long plays(int b) {
    if (!buyer(b)) {
      return no(-2);
    }
    long count = 0;
    HashMap<String, Long> known = new HashMap<>();
    while (m.buyers.get(b).purse >= m.price && m.value(b, m.now(), -1, known) > 0) {
      pay(b, m.price);
      m.take(m.draw(), b);
      count++;
    }
    return count;
  }

  private long rest(String name, int a) {
    switch (name) {
      case "fete":
        if (!in(a, 0, 1000)) {
          return no(-2);
        }
        m.allIn();
        m.goes = 0;
        long count = 0;
        for (int t = 0; t < m.things.size(); t++) {
          Model.Thing it = m.things.get(t);
          if (it.owner >= 0 && m.buyers.get(it.owner).likes[t] < a) {
            it.owner = -1;
            it.age++;
            count++;
          }
        }
        return count;
      case "seed":
        long before = m.seed;
        m.seed = a;
        return before;
      case "image":
        kept = m.copy();
        return 1;
      case "back":
        if (kept == null) {
          return no(-5);
        }
        m = kept.copy();
        for (int s = 0; s < 8; s++) {
          if (content[s] >= 10 + m.things.size()) {
            content[s] = -1;
          }
        }
        return 1;
      case "status":
        int used = 0;
        for (int s = 0; s < 8; s++) {
          used += content[s] != -1 ? 1 : 0;
        }
        long[] facts = {m.slips, m.rule, m.in.size(), m.goes, m.things.size(), Model.bits(m.now().standing()),
          m.buyers.size(), m.taken, tape.length(), m.seed, used, m.drawables(m.now()).size(),
          refusals[0], refusals[1], refusals[2], refusals[3], refusals[4]};
        return in(a, 0, 16) ? facts[a] : -1;
      default:
        throw new IllegalStateException(name);
    }
  }
}
