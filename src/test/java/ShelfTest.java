/** Promises 1 to 8: a new object, shelves, rows, and what things say. */
final class ShelfTest {
  private static final int MIN = Integer.MIN_VALUE;
  private static final int MAX = Integer.MAX_VALUE;

  private ShelfTest() {
  }

  public static void main(String[] args) {
    newObject();
    row();
    set();
    setKeepsLowestBits();
    copy();
    copyRefusals();
    element();
    holds();
    show();
    says();
    saysRefusals();
    Due.end();
  }

  private static void newObject() {
    EndsInFive x = new EndsInFive();
    int[] due = {20, 5, 20, 0, 0, 0, 0, 0, 0, 1, 0, 20, 0, 0, 0, 0, 0};
    for (int what = 0; what < due.length; what++) {
      Due.is("1: status(" + what + ") of a new one", x.status(what), due[what]);
    }
    Due.is("1: price", x.price(0, 10), 10);
    Due.is("1: five", x.price(1, 40), 40);
    for (int s = 0; s < 8; s++) {
      Due.is("1: holds(" + s + ")", x.holds(s), -1);
    }
    Due.is("1: wipe", x.wipe(), 0);
    for (int slip = 1; slip <= 20; slip++) {
      Due.is("1: slip is in", x.slipOf(slip, 0), 1);
      Due.is("1: slip can be drawn", x.slipOf(slip, 2), 1);
      Due.is("1: no thing on it", x.slipOf(slip, 3), -1);
    }
    Due.refused(x, "1: nothing is kept", x::back, -5);
  }

  private static void row() {
    EndsInFive x = Due.stall("thing 0 5 0");
    for (int sort = 0; sort <= 4; sort++) {
      final int told = sort;
      Due.unrefused(x, "2: row of sort " + sort, () -> x.row(told, told, 40), 1);
      Due.is("2: holds", x.holds(sort), sort);
      Due.is("2: all elements are 0", x.element(sort, 39), 0);
    }
    x.set(0, 3, 7);
    x.set(0, 0, 7);
    Due.is("2: a new row", x.row(0, 0, 40), 1);
    Due.is("2: its first is 0 again", x.element(0, 0), 0);
    Due.is("2: its elements are 0 again", x.element(0, 3), 0);
    x.set(0, 39, 9);
    x.row(0, 3, 2);
    x.row(0, 3, 40);
    Due.is("2: nothing stays behind a shorter row", x.element(0, 39), 0);
    Due.is("2: a row without elements", x.row(7, 2, 0), 1);
    Due.is("2: holds it", x.holds(7), 2);
    x.show(6, 0);
    Due.is("2: a row in a thing's stead", x.row(6, 1, 1), 1);
    Due.is("2: holds that", x.holds(6), 1);
    for (int bad : new int[] {-1, 8, MIN, MAX}) {
      Due.refused(x, "2: row in shelf " + bad, () -> x.row(bad, 0, 1), -2);
    }
    for (int bad : new int[] {-1, 5, MIN, MAX}) {
      Due.refused(x, "2: row of sort " + bad, () -> x.row(0, bad, 1), -2);
    }
    for (int bad : new int[] {-1, 41, MIN, MAX}) {
      Due.refused(x, "2: row of " + bad, () -> x.row(0, 0, bad), -2);
    }
  }

  private static void set() {
    EndsInFive x = Due.stall("thing 0 5 0");
    x.row(0, 3, 3);
    Due.unrefused(x, "3: set", () -> x.set(0, 2, Long.MIN_VALUE), 1);
    Due.is("3: element", x.element(0, 2), Long.MIN_VALUE);
    Due.is("3: the others stay", x.element(0, 1), 0);
    Due.is("3: set the first", x.set(0, 0, -1), 1);
    Due.is("3: element", x.element(0, 0), -1);
    x.show(1, 0);
    x.row(3, 0, 0);
    for (int bad : new int[] {-1, 8, MIN, MAX}) {
      Due.refused(x, "3: shelf " + bad, () -> x.set(bad, 0, 1), -2);
    }
    Due.refused(x, "3: a thing", () -> x.set(1, -1, 1), -3);
    Due.refused(x, "3: nothing", () -> x.set(2, -1, 1), -4);
    for (int bad : new int[] {-1, 3, MIN, MAX}) {
      Due.refused(x, "3: i " + bad, () -> x.set(0, bad, 1), -2);
    }
    Due.refused(x, "3: a row without elements", () -> x.set(3, 0, 1), -2);
  }

  private static void setKeepsLowestBits() {
    long[] told = {0, 1, -1, 127, 128, 255, 256, -129, 32767, 32768, 65536, 2147483647L, 2147483648L,
      4294967296L, 4294967301L, Long.MAX_VALUE, Long.MIN_VALUE};
    EndsInFive x = new EndsInFive();
    for (int sort = 0; sort <= 4; sort++) {
      x.row(sort, sort, 1);
    }
    for (long v : told) {
      for (int sort = 0; sort <= 4; sort++) {
        x.set(sort, 0, v);
      }
      Due.is("3: byte of " + v, x.element(0, 0), (byte) v);
      Due.is("3: short of " + v, x.element(1, 0), (short) v);
      Due.is("3: int of " + v, x.element(2, 0), (int) v);
      Due.is("3: long of " + v, x.element(3, 0), v);
      Due.is("3: boolean of " + v, x.element(4, 0), v != 0 ? 1 : 0);
    }
  }

  private static void copy() {
    EndsInFive x = new EndsInFive();
    Due.book(x, 0, 0, 1, 2, 3, 4, 5);
    Due.book(x, 1, 0, 9, 9, 9);
    Due.unrefused(x, "4: copy", () -> x.copy(0, 1, 3, 1, 2), 2);
    Due.is("4: ahead of it", x.element(1, 0), 9);
    Due.is("4: the first", x.element(1, 1), 4);
    Due.is("4: the second", x.element(1, 2), 5);
    Due.is("4: copy up, over itself", x.copy(0, 0, 0, 1, 4), 4);
    for (int i = 0; i < 5; i++) {
      Due.is("4: as they were, up " + i, x.element(0, i), i == 0 ? 1 : i);
    }
    Due.book(x, 0, 0, 1, 2, 3, 4, 5);
    Due.is("4: copy down, over itself", x.copy(0, 0, 1, 0, 4), 4);
    for (int i = 0; i < 5; i++) {
      Due.is("4: as they were, down " + i, x.element(0, i), i == 4 ? 5 : i + 2);
    }
    Due.is("4: none, behind the last", x.copy(0, 1, 5, 3, 0), 0);
    Due.is("4: all", x.copy(1, 0, 0, 0, 3), 3);
    Due.is("4: the first of all", x.element(0, 0), 9);
    x.row(2, 0, 0);
    Due.is("4: none of none", x.copy(2, 2, 0, 0, 0), 0);
  }

  private static void copyRefusals() {
    EndsInFive x = Due.stall("thing 0 5 0");
    Due.book(x, 0, 0, 1, 2, 3);
    Due.book(x, 1, 1, 1, 2, 3);
    Due.book(x, 2, 0, 7, 8, 9);
    x.show(3, 0);
    for (int bad : new int[] {-1, 8, MIN, MAX}) {
      Due.refused(x, "4: from shelf " + bad, () -> x.copy(bad, 3, 0, 0, 1), -2);
      Due.refused(x, "4: to shelf " + bad, () -> x.copy(3, bad, 0, 0, 1), -2);
    }
    Due.refused(x, "4: from a thing", () -> x.copy(3, 0, -1, 0, 1), -3);
    Due.refused(x, "4: to a thing", () -> x.copy(0, 3, -1, 0, 1), -3);
    Due.refused(x, "4: from a thing to nothing", () -> x.copy(3, 4, 0, 0, 1), -3);
    Due.refused(x, "4: from nothing to a thing", () -> x.copy(4, 3, 0, 0, 1), -3);
    Due.refused(x, "4: two sorts", () -> x.copy(0, 1, -1, 0, 1), -3);
    Due.refused(x, "4: to nothing", () -> x.copy(0, 4, -1, 0, 1), -4);
    Due.refused(x, "4: from nothing", () -> x.copy(4, 0, -1, 0, 1), -4);
    Due.refused(x, "4: nothing at all", () -> x.copy(4, 5, -1, 0, 1), -4);
    int[][] bad = {{-1, 0, 1}, {0, -1, 1}, {0, 0, -1}, {3, 0, 1}, {0, 3, 1}, {0, 0, 4}, {1, 0, 3}, {0, 1, 3},
      {4, 0, 0}, {0, 4, 0}, {MAX, 0, 1}, {0, MAX, 1}, {1, 1, MAX}, {MIN, 0, 1}, {0, MIN, 1}, {0, 0, MIN}};
    for (int[] b : bad) {
      Due.refused(x, "4: copy(0, 2, " + b[0] + ", " + b[1] + ", " + b[2] + ")",
          () -> x.copy(0, 2, b[0], b[1], b[2]), -2);
    }
  }

  private static void element() {
    EndsInFive x = Due.stall("thing 0 5 0");
    Due.book(x, 0, 3, 5, -6);
    x.show(1, 0);
    Due.told(x, "5: element", () -> x.element(0, 1), -6);
    for (int i : new int[] {-1, 2, 40, MIN, MAX}) {
      Due.told(x, "5: no element " + i, () -> x.element(0, i), 0);
    }
    for (int s : new int[] {-1, 1, 2, 8, MIN, MAX}) {
      Due.told(x, "5: no row in " + s, () -> x.element(s, 0), 0);
    }
    x.row(0, 3, 40);
    x.set(0, 20, 5);
    x.row(0, 3, 2);
    Due.told(x, "5: behind a shorter row", () -> x.element(0, 20), 0);
    x.set(0, 1, 5);
    x.show(0, 0);
    Due.told(x, "5: a thing where a row was", () -> x.element(0, 1), 0);
    x.show(0, -1);
    Due.told(x, "5: nothing where a row was", () -> x.element(0, 1), 0);
  }

  private static void holds() {
    EndsInFive x = Due.stall("thing 0 5 0;thing 1 10 0");
    x.row(0, 4, 1);
    x.show(1, 1);
    Due.told(x, "6: holds a row", () -> x.holds(0), 4);
    Due.told(x, "6: holds a thing", () -> x.holds(1), 11);
    Due.told(x, "6: holds nothing", () -> x.holds(2), -1);
    for (int s : new int[] {-1, 8, MIN, MAX}) {
      Due.told(x, "6: no shelf " + s, () -> x.holds(s), -1);
    }
  }

  private static void show() {
    EndsInFive x = Due.stall("thing 0 5 0;thing 1 10 0");
    Due.unrefused(x, "7: show", () -> x.show(7, 1), 1);
    Due.is("7: holds", x.holds(7), 11);
    Due.is("7: show the first", x.show(7, 0), 1);
    Due.is("7: holds the first", x.holds(7), 10);
    Due.is("7: the same in another shelf", x.show(0, 0), 1);
    Due.is("7: two shelves are in use", x.status(10), 2);
    Due.is("7: show nothing", x.show(7, -1), 1);
    Due.is("7: holds nothing", x.holds(7), -1);
    Due.is("7: nothing again", x.show(7, -1), 1);
    for (int bad : new int[] {-1, 8, MIN, MAX}) {
      Due.refused(x, "7: shelf " + bad, () -> x.show(bad, 0), -2);
      Due.refused(x, "7: nothing in shelf " + bad, () -> x.show(bad, -1), -2);
    }
    for (int bad : new int[] {-2, 2, MIN, MAX}) {
      Due.refused(x, "7: thing " + bad, () -> x.show(0, bad), -2);
    }
  }

  private static void says() {
    EndsInFive x = Due.stall("thing 0 5 0;thing 1 10 0;thing 2 15 0;thing 3 20 0;out 1;out 2");
    x.buyer(99);
    x.buyer(99);
    x.likes(0, 3, 40);
    x.likes(1, 3, 2);
    for (int t = 0; t < 4; t++) {
      x.show(t, t);
    }
    Due.told(x, "8: whisky as thing", () -> x.says(3, 0), 42);
    Due.told(x, "8: thing that no one likes", () -> x.says(0, 0), 0);
    Due.told(x, "8: whisky as bottle", () -> x.says(3, 1), 1);
    Due.told(x, "8: whisky brings the first thing", () -> x.says(3, 3), 0);
    Due.told(x, "8: tin", () -> x.says(2, 2), 0);
    Due.book(x, 7, 0, 5, 15);
    x.booked(7, 2, 0);
    Due.told(x, "8: tin that was won", () -> x.says(2, 2), 1);
    Due.told(x, "8: whisky brings no bottle", () -> x.says(3, 3), -1);
    Due.told(x, "8: bottle stands", () -> x.says(1, 1), 1);
    Due.book(x, 7, 0, 10);
    x.booked(7, 1, 0);
    Due.told(x, "8: bottle was won", () -> x.says(1, 1), 0);
    heldAndSunk();
  }

  private static void heldAndSunk() {
    EndsInFive x = Due.stall("slips 5;rule 2;thing 4 2 1;thing 5 4 2;buyer 99");
    x.show(0, 0);
    x.show(1, 1);
    Due.told(x, "8: held waits for two goes", () -> x.says(0, 4), 2);
    Due.told(x, "8: sunk as held", () -> x.says(1, 4), 4);
    Due.told(x, "8: sunk: three must be out of five", () -> x.says(1, 5), 3);
    Due.book(x, 7, 0, 1, 3, 5);
    x.booked(7, 1, 0);
    Due.told(x, "8: held waits for one", () -> x.says(0, 4), 1);
    Due.told(x, "8: sunk: two", () -> x.says(1, 5), 2);
    x.copy(7, 7, 1, 0, 2);
    x.booked(7, 2, 0);
    Due.told(x, "8: held waits no more", () -> x.says(0, 4), 0);
    Due.told(x, "8: sunk waits as held", () -> x.says(1, 4), 1);
    Due.told(x, "8: sunk: none", () -> x.says(1, 5), 0);
    Due.book(x, 7, 0, 2);
    x.booked(7, 1, 0);
    Due.told(x, "8: sunk: none, with one of five in", () -> x.says(1, 5), 0);
    Due.told(x, "8: held waits no more, long since", () -> x.says(0, 4), 0);
    EndsInFive y = Due.stall("slips 4;rule 2;thing 5 4 0;buyer 99");
    y.show(0, 0);
    Due.told(y, "8: sunk: two of four", () -> y.says(0, 5), 2);
  }

  private static void saysRefusals() {
    EndsInFive x = Due.stall("thing 0 5 0;thing 1 10 0;thing 3 15 0;thing 5 20 0");
    for (int t = 0; t < 4; t++) {
      x.show(t, t);
    }
    x.row(4, 2, 3);
    for (int bad : new int[] {-1, 8, MIN, MAX}) {
      Due.refused(x, "8: shelf " + bad, () -> x.says(bad, 0), -2);
    }
    for (int bad : new int[] {-1, 6, MIN, MAX}) {
      Due.refused(x, "8: kind " + bad, () -> x.says(4, bad), -2);
      Due.refused(x, "8: kind " + bad + " of nothing", () -> x.says(5, bad), -2);
    }
    Due.refused(x, "8: a row", () -> x.says(4, 0), -3);
    Due.refused(x, "8: nothing", () -> x.says(5, 0), -4);
    int[][] allowed = {{0}, {0, 1}, {0, 1, 3}, {0, 4, 5}};
    for (int t = 0; t < 4; t++) {
      for (int kind = 0; kind < 6; kind++) {
        boolean may = false;
        for (int a : allowed[t]) {
          may |= a == kind;
        }
        final int shelf = t;
        final int told = kind;
        if (!may) {
          Due.refused(x, "8: thing " + t + " as " + kind, () -> x.says(shelf, told), -3);
        } else {
          Due.is("8: thing " + t + " as " + kind, x.says(t, kind) >= -1 ? 1 : 0, 1);
        }
      }
    }
    EndsInFive y = Due.stall("thing 2 5 0;thing 4 10 0");
    y.show(0, 0);
    y.show(1, 1);
    Due.refused(y, "8: tin as bottle", () -> y.says(0, 1), -3);
    Due.refused(y, "8: held as sunk", () -> y.says(1, 5), -3);
    Due.refused(y, "8: held as tin", () -> y.says(1, 2), -3);
  }
}
