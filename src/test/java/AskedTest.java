/** Promises 25 to 31: images, kinds, asks with their trace, counts. */
public final class AskedTest {
  private static final String ALL_KINDS = "c4,3;f0,2;o0,3;w3,1;r2,0;b2,7;f3,0;";

  public static void main(String[] args) {
    withoutCatalogue();
    images();
    kinds();
    asks();
    traces();
    counts();
    Checks.end("AskedTest");
  }

  private static void withoutCatalogue() {
    DrawerCards x = new DrawerCards();
    Checks.allDue("no catalogue: BAD", Checks.BAD, () -> x.kind(0), () -> x.as(0, 0), () -> x.ask(0, 0),
        () -> x.image(2), () -> x.image(-1), () -> x.restore(2), () -> x.restore(-1));
    Checks.allDue("no catalogue: STATE", Checks.STATE, () -> x.image(0), () -> x.image(1), () -> x.restore(0),
        () -> x.restore(1));
  }

  private static void images() {
    DrawerCards x = Checks.read(ALL_KINDS);
    Checks.due("image 0", x.image(0), 1);
    x.nights(3);
    x.like(0, 5);
    String later = Checks.shelves(x);
    Checks.due("image 1", x.image(1), 1);
    Checks.due("acts yet", x.count(5), 4);
    Checks.feed(x, "c2,8;b1,1;");
    x.catalogue();
    Checks.due("restore 0", x.restore(0), 1);
    Checks.stand("restore(0)", x, "01||34|25");
    Checks.due("night", x.count(3), 0);
    Checks.due("drawers", x.count(1), 4);
    Checks.due("holds", x.count(4), 3);
    Checks.due("likes", x.card(0, 2), 2);
    Checks.due("kind", x.kind(2), 3);
    x.turn(0);
    Checks.due("restore 1", x.restore(1), 1);
    Checks.tell(later.equals(Checks.shelves(x)), "image 1 was " + later + ", is " + Checks.shelves(x));
    Checks.due("night", x.count(3), 3);
    Checks.due("likes", x.card(0, 2), 5);
    Checks.due("no act can be undone", x.count(5), 0);
    Checks.due("undo", x.undo(), Checks.STATE);
    x.put(0, 0);
    x.nights(2);
    x.restore(1);
    Checks.tell(later.equals(Checks.shelves(x)), "what comes behind leaves an image as it is");
    x.restore(0);
    x.image(1);
    x.nights(1);
    x.restore(1);
    Checks.stand("an image in place of another", x, "01||34|25");
    Checks.allDue("bad", Checks.BAD, () -> x.image(2), () -> x.image(-1), () -> x.restore(2), () -> x.restore(-1));
    Checks.due("only image 1 is kept", onlyImageOne(), Checks.STATE);
  }

  private static int onlyImageOne() {
    DrawerCards x = Checks.read("c2,1;f0,1;");
    x.image(1);
    x.turn(0);
    int answer = x.restore(0);
    Checks.due("a refusal leaves the acts", x.count(5), 1);
    return answer;
  }

  private static void kinds() {
    DrawerCards x = Checks.read(ALL_KINDS);
    int[] told = {1, 2, 3, 4, 5, 1};
    boolean[][] isOne = {
      {true, true, false, false, false, false},
      {true, true, true, false, false, false},
      {true, true, false, true, false, false},
      {true, false, false, false, true, false},
      {true, false, false, false, true, true},
      {true, true, false, false, false, false}};
    for (int c = 0; c < 6; c++) {
      Checks.due("kind " + c, x.kind(c), told[c]);
      for (int k = 0; k < 6; k++) {
        Checks.due("as(" + c + ", " + k + ")", x.as(c, k), isOne[c][k] ? c : Checks.KIND);
        Checks.due("status", x.status(), isOne[c][k] ? 0 : 3);
      }
    }
    Checks.allDue("bad", Checks.BAD, () -> x.kind(6), () -> x.kind(-1), () -> x.as(6, 0), () -> x.as(-1, 0),
        () -> x.as(0, 6), () -> x.as(0, -1), () -> x.as(6, 9));
  }

  private static void asked(DrawerCards x, int card, int what, int answer, int... bodies) {
    String call = "ask(" + card + ", " + what + ")";
    Checks.due(call, x.ask(card, what), answer);
    for (int i = 0; i < bodies.length; i++) Checks.due(call + " trace " + i, x.trace(i), bodies[i]);
    Checks.due(call + " trace's end", x.trace(bodies.length), Checks.NONE);
  }

  private static void asks() {
    DrawerCards x = Checks.read(ALL_KINDS);
    asked(x, 0, 0, 2, 11, 10, 21, 20);
    asked(x, 0, 1, 0, 21, 20);
    asked(x, 1, 0, -(3 + 4), 12, 11, 10, 24, 21, 20);
    asked(x, 1, 1, 2 * (1 + 1), 24, 21, 20);
    asked(x, 2, 0, 1 + 2 - 1000, 11, 10, 22, 21, 20);
    asked(x, 2, 1, 2 - 1000, 22, 21, 20);
    asked(x, 3, 0, -100, 13, 10);
    asked(x, 3, 1, 3 + 100, 23, 20, 13, 10);
    asked(x, 4, 0, 2 * (7 - 100), 14, 13, 10);
    asked(x, 4, 1, 4 + 186, 23, 20, 14, 13, 10);
    asked(x, 5, 0, 0 + 5 + 1, 11, 10, 21, 20);
    asked(x, 5, 1, 5 + 1, 21, 20);
    x.like(5, 7);
    x.turn(3);
    asked(x, 5, 0, 7 + 5, 11, 10, 21, 20);
    asked(x, 2, 1, 2 + 1 - 1000, 22, 21, 20);
  }

  private static void traces() {
    DrawerCards x = Checks.read(ALL_KINDS);
    Checks.due("empty at first", x.trace(0), Checks.NONE);
    x.ask(1, 0);
    Checks.allDue("bad", Checks.BAD, () -> x.ask(6, 0), () -> x.ask(-1, 0), () -> x.ask(0, 2), () -> x.ask(0, -1));
    Checks.due("a refusal leaves the trace", x.trace(5), 20);
    x.nights(1);
    x.as(0, 1);
    Checks.due("other calls leave the trace", x.trace(0), 12);
    Checks.allDue("no such number", Checks.NONE, () -> x.trace(-1), () -> x.trace(6), () -> x.trace(16),
        () -> x.trace(Integer.MAX_VALUE), () -> x.trace(Integer.MIN_VALUE));
    x.ask(0, 1);
    Checks.due("empty ahead of an ask", x.trace(2), Checks.NONE);
  }

  private static void counts() {
    DrawerCards x = Checks.read(ALL_KINDS);
    x.row(0, 0, 0);
    x.row(5, 1, 9);
    x.row(7, 2, 40);
    x.nights(2);
    x.turn(1);
    Checks.feed(x, "cab");
    int[] want = {3, 4, 6, 2, 3, 3, 3, 111222};
    for (int what = 0; what < 8; what++) Checks.due("count(" + what + ")", x.count(what), want[what]);
    Checks.allDue("bad", Checks.BAD, () -> x.count(8), () -> x.count(-1));
    Checks.due("eight figures", Checks.read("c6,8;r5,1;r4,0;r3,0;r2,0;r1,0;r0,0;r5,0;r5,0;").count(7), 54321055);
    Checks.due("figures begin with card 0", Checks.read("c6,8;r0,1;r4,0;").count(7), 4);
  }
}
