/** Promises 9 to 15: nights card by card, acts, undoing, what is told of cards and drawers. */
public final class ActsTest {
  public static void main(String[] args) {
    withoutCatalogue();
    freeCards();
    oldCards();
    wildCards();
    rodsAndBlanks();
    nightsRefused();
    puts();
    turns();
    likings();
    undone();
    told();
    Checks.end("ActsTest");
  }

  private static void withoutCatalogue() {
    DrawerCards x = new DrawerCards();
    Checks.allDue("no catalogue: STATE", Checks.STATE, () -> x.nights(1), () -> x.nights(0), () -> x.undo());
    Checks.allDue("no catalogue: BAD", Checks.BAD, () -> x.put(0, 0), () -> x.turn(0), () -> x.like(0, 1),
        () -> x.card(0, 0), () -> x.drawer(0, 0));
  }

  /** Night by night, the cards are due to stand as told. */
  private static void nightly(String text, String... want) {
    DrawerCards x = Checks.read(text);
    Checks.stand("reading " + text, x, want[0]);
    for (int k = 1; k < want.length; k++) {
      x.nights(1);
      Checks.stand(k + " nights of " + text, x, want[k]);
    }
  }

  private static void freeCards() {
    // Card 1 has a dear that is not there.
    nightly("c4,3;f0,1;f3,7;", "0|||1", "|0||1", "||0|1", "|||10", "|||10");
    nightly("c4,3;f3,1;f0,7;", "1|||0", "1||0|", "1|0||", "10|||");
    // The drawer beside is full: it waits.
    nightly("c3,1;f0,2;r1,0;f2,7;", "0|1|2", "0|1|2");
    // Into a drawer behind all, and only then right behind its dear.
    nightly("c2,3;f0,1;r1,0;r1,0;", "0|12", "|120", "|102", "|102");
    // From ahead of its dear to right behind it.
    nightly("c2,4;f0,2;r0,7;r0,1;r0,1;", "0123|", "1203|");
    // From farther behind.
    nightly("c2,4;r0,1;r0,0;r0,0;f0,0;", "0123|", "0312|");
    // Card by card: card 1 sees where card 0 went, and goes right behind it in the same night.
    nightly("c2,2;f0,1;f1,0;", "0|1", "|01", "|01");
  }

  private static void oldCards() {
    nightly("c6,1;o0,1;r5,0;", "0|||||1", "|0||||1", "|0||||1", "||0|||1", "||0|||1", "|||0||1");
    // In its own drawer too, in even nights alone.
    DrawerCards x = Checks.read("c2,3;o0,1;r0,0;r0,7;");
    x.nights(1);
    Checks.stand("an even night", x, "102|");
    x.turn(0);
    x.nights(1);
    Checks.stand("an odd night", x, "201|");
    x.nights(1);
    Checks.stand("an even night again", x, "210|");
  }

  private static void wildCards() {
    nightly("c6,3;w0,1;r5,0;r5,0;", "0|||||12", "|||||102", "|||||102");
    nightly("c6,2;w0,1;r5,0;r5,0;", "0|||||12", "0|||||12");
    nightly("c2,3;w0,2;r0,0;r0,0;", "012|", "120|");
    nightly("c2,2;w0,2;r0,0;", "01|", "01|");
  }

  private static void rodsAndBlanks() {
    nightly("c2,2;r0,1;r1,0;", "0|1", "0|1");
    nightly("c2,4;r0,1;r0,0;b0,0;", "012|", "021|", "201|", "201|");
    // A blank goes by places, whomever it likes.
    nightly("c2,4;r0,1;b0,7;r1,0;", "01|2", "10|2", "10|2");
    // Two blanks, the one ahead first.
    nightly("c2,4;b0,7;b0,7;", "01|", "10|", "10|");
    nightly("c2,4;r0,7;b0,7;b0,7;", "012|", "120|", "210|");
  }

  private static void nightsRefused() {
    DrawerCards x = Checks.read("c2,2;f0,1;f1,0;");
    Checks.allDue("bad", Checks.BAD, () -> x.nights(0), () -> x.nights(25), () -> x.nights(-1));
    Checks.due("night", x.count(3), 0);
    Checks.due("mates then", x.nights(1), 1 << 1);
    Checks.due("mates of the next", x.nights(1), 1 << 1);
    Checks.due("acts", x.count(5), 2);
    Checks.due("24 more", x.nights(24), 1 << 1);
    Checks.due("night", x.count(3), 26);
    Checks.due("24 acts at most", x.count(5), 24);
    for (int k = 0; k < 415; k++) x.nights(24);
    Checks.due("night", x.count(3), 9986);
    Checks.due("beyond", x.nights(14), Checks.FULL);
    Checks.due("BAD is ahead of FULL", x.nights(25), Checks.BAD);
    Checks.due("night yet", x.count(3), 9986);
    x.nights(13);
    Checks.due("night 9999", x.count(3), 9999);
    Checks.due("one beyond", x.nights(1), Checks.FULL);
    Checks.due("foretold all the same", x.ahead(0, 60, 0), 1);
  }

  private static void puts() {
    DrawerCards x = Checks.read("c3,2;r0,1;r0,0;r1,0;r2,0;r2,0;");
    Checks.due("put", x.put(0, 1), 0);
    Checks.stand("put", x, "1|20|34");
    Checks.due("its own, though full", x.put(2, 1), 1);
    Checks.stand("put into its own", x, "1|02|34");
    Checks.due("alone in its own", x.put(1, 0), 0);
    Checks.due("acts", x.count(5), 3);
    Checks.due("full", x.put(1, 2), Checks.STATE);
    Checks.allDue("bad", Checks.BAD, () -> x.put(5, 0), () -> x.put(-1, 0), () -> x.put(0, 3), () -> x.put(0, -1),
        () -> x.put(5, 2), () -> x.put(Integer.MIN_VALUE, 0), () -> x.put(0, Integer.MAX_VALUE));
    Checks.due("acts yet", x.count(5), 3);
    Checks.stand("refusals", x, "1|02|34");
    Checks.due("back", x.put(3, 0), 2);
    Checks.stand("put back", x, "13|02|4");
  }

  private static void turns() {
    DrawerCards x = Checks.read("c3,4;r0,1;r0,0;r0,0;r0,0;r2,0;");
    Checks.due("turn", x.turn(0), 4);
    Checks.stand("turn", x, "3210||4");
    Checks.due("one card", x.turn(2), 1);
    Checks.due("none", x.turn(1), 0);
    Checks.stand("turns", x, "3210||4");
    Checks.due("each is an act", x.count(5), 3);
    Checks.allDue("bad", Checks.BAD, () -> x.turn(3), () -> x.turn(-1));
    x.put(3, 1);
    x.turn(0);
    Checks.stand("three", x, "012|3|4");
  }

  private static void likings() {
    DrawerCards x = Checks.read("c3,4;f0,1;f2,0;");
    Checks.due("like", x.like(0, 7), 1);
    Checks.due("likes", x.card(0, 2), 7);
    Checks.due("the same", x.like(0, 7), 7);
    Checks.due("acts", x.count(5), 2);
    Checks.allDue("bad", Checks.BAD, () -> x.like(0, 0), () -> x.like(1, 1), () -> x.like(0, 8), () -> x.like(0, -1),
        () -> x.like(2, 0), () -> x.like(-1, 0));
    Checks.due("acts yet", x.count(5), 2);
    x.nights(1);
    Checks.stand("a liking that is not there", x, "0|1|");
    x.like(1, 2);
    x.like(0, 1);
    x.nights(1);
    Checks.stand("likings that changed", x, "|10|");
  }

  private static void undone() {
    DrawerCards x = Checks.read("c3,2;f0,1;r2,0;b2,7;");
    Checks.due("none", x.undo(), Checks.STATE);
    x.nights(2);
    x.put(1, 0);
    x.turn(2);
    x.like(0, 2);
    Checks.stand("acts", x, "1|0|2");
    Checks.due("5 acts", x.count(5), 5);
    Checks.due("like undone", x.undo(), 4);
    Checks.due("likes", x.card(0, 2), 1);
    Checks.due("turn undone", x.undo(), 3);
    Checks.due("put undone", x.undo(), 2);
    Checks.stand("put undone", x, "|0|21");
    Checks.due("night", x.count(3), 2);
    Checks.due("night undone", x.undo(), 1);
    Checks.due("night", x.count(3), 1);
    Checks.due("first night undone", x.undo(), 0);
    Checks.stand("all undone", x, "0||12");
    Checks.due("night 0", x.count(3), 0);
    Checks.due("none more", x.undo(), Checks.STATE);
    forgotten();
  }

  private static void forgotten() {
    DrawerCards x = Checks.read("c3,2;r0,1;r0,0;");
    for (int k = 0; k < 30; k++) x.like(0, 1 + k % 7);
    Checks.due("24 acts", x.count(5), 24);
    for (int k = 23; k >= 0; k--) {
      Checks.due("undo", x.undo(), k);
      Checks.due("likes", x.card(0, 2), 1 + (k + 5) % 7);
    }
    Checks.due("the oldest are forgotten", x.undo(), Checks.STATE);
    Checks.due("likes", x.card(0, 2), 6);
    x.turn(0);
    Checks.stand("a turn", x, "10||");
    x.undo();
    Checks.stand("undone", x, "01||");
  }

  private static void told() {
    DrawerCards x = Checks.read("c3,3;r2,1;r0,0;r2,7;r2,0;");
    int[][] want = {{2, 0, 1, Checks.NONE}, {0, 0, 0, Checks.NONE}, {2, 1, 7, 0}, {2, 2, 0, 2}};
    for (int c = 0; c < 4; c++) {
      for (int what = 0; what < 4; what++) Checks.due("card(" + c + ", " + what + ")", x.card(c, what), want[c][what]);
    }
    int[][] drawers = {{1, 2, 1}, {0, 0, Checks.NONE}, {3, 13, 0}};
    for (int d = 0; d < 3; d++) {
      for (int what = 0; what < 3; what++) {
        Checks.due("drawer(" + d + ", " + what + ")", x.drawer(d, what), drawers[d][what]);
      }
    }
    x.turn(2);
    Checks.due("first of the turned drawer", x.drawer(2, 2), 3);
    Checks.allDue("bad", Checks.BAD, () -> x.card(4, 0), () -> x.card(-1, 0), () -> x.card(0, 4), () -> x.card(0, -1),
        () -> x.drawer(3, 0), () -> x.drawer(-1, 0), () -> x.drawer(0, 3), () -> x.drawer(0, -1));
  }
}
