import java.util.Random;

/**
 * All promises: runs of drawn calls (always the same ones) on the class and on the model of it, answer by answer. An
 * object is used for 512 calls at most, as what it answers then is free.
 */
public final class ModelTest {
  private static final int RUNS = 6000;
  private static final int CALLS = 512;
  // No step (a text onto the tape is the longest), with the glance behind it, makes more calls than this.
  private static final int MOST_OF_A_STEP = 60;
  private static final int WHOLE_PICTURE = 84;

  private final Random dice;
  private final DrawerCards x = new DrawerCards();
  private final Model y = new Model();
  private final StringBuilder told = new StringBuilder();
  private int made = 0;
  private boolean wrong = false;

  private ModelTest(long seed) {
    dice = new Random(seed);
  }

  public static void main(String[] args) {
    int failed = 0;
    for (int run = 0; run < RUNS && failed < 3; run++) {
      ModelTest test = new ModelTest(run);
      if (!test.goes()) {
        failed++;
        System.out.println("run " + run + ":" + test.told);
      }
    }
    System.out.println("ModelTest: " + RUNS + " runs, " + failed + " wrong");
    if (failed != 0) System.exit(1);
  }

  private boolean goes() {
    while (made <= CALLS - MOST_OF_A_STEP - WHOLE_PICTURE && !wrong) {
      if (dice.nextInt(12) == 0) text();
      else call();
      glance();
    }
    picture();
    if (made > CALLS) {
      told.append(" made ").append(made).append(" calls");
      wrong = true;
    }
    return !wrong;
  }

  /** From a little below a range to a little above it, mostly within. */
  private int near(int least, int most) {
    switch (dice.nextInt(40)) {
      case 0: return least - 1;
      case 1: return most + 1;
      case 2: return dice.nextInt();
      default: return least + dice.nextInt(most - least + 1);
    }
  }

  private int aCard() {
    return near(0, Math.max(0, y.count(2) - 1));
  }

  private int aDrawer() {
    return near(0, Math.max(0, y.count(1) - 1));
  }

  private void same(String call, int got, int want) {
    made++;
    told.append(' ').append(call).append('=').append(got);
    if (got != want) {
      told.append(" due ").append(want);
      wrong = true;
    }
  }

  /** As the above, but told only if it is wrong: there are many of these. */
  private void sameYet(String call, int what, int got, int want) {
    if (got != want) same(call + " " + what, got, want);
    else made++;
  }

  private void text() {
    String s = catalogueText();
    for (int i = 0; i < s.length(); i++) same("feed " + s.charAt(i), x.feed(s.charAt(i)), y.feed(s.charAt(i)));
    same("catalogue", x.catalogue(), y.catalogue());
    same("fault", x.fault(), y.fault());
  }

  private String catalogueText() {
    StringBuilder s = new StringBuilder();
    int drawers = 2 + dice.nextInt(5);
    int holds = 1 + dice.nextInt(8);
    s.append('c').append(drawers).append(',').append(holds).append(';');
    int cards = 1 + dice.nextInt(8);
    int[] fill = new int[drawers];
    for (int c = 0; c < cards; c++) {
      int d = dice.nextInt(drawers);
      if (fill[d] >= holds && dice.nextInt(20) != 0) continue;
      fill[d]++;
      s.append("fffoowwrb".charAt(dice.nextInt(9))).append(d).append(',');
      s.append(dice.nextInt(6) == 0 ? dice.nextInt(8) : (c + 1 + dice.nextInt(Math.max(1, cards - 1))) % cards).append(';');
    }
    if (dice.nextInt(3) == 0) {
      String signs = "fowrbc0123456789,;xA ";
      int at = dice.nextInt(s.length());
      char sign = signs.charAt(dice.nextInt(signs.length()));
      switch (dice.nextInt(4)) {
        case 0: s.setCharAt(at, sign); break;
        case 1: s.deleteCharAt(at); break;
        case 2: s.insert(at, sign); break;
        default: s.setLength(at);
      }
    }
    return s.toString();
  }

  private void call() {
    int which = dice.nextInt(30);
    if (which < 4) rowCall(which);
    else if (which < 16) actCall(which);
    else foretoldCall(which);
  }

  private void rowCall(int which) {
    int r = near(0, 7);
    if (which == 0) {
      int lane = near(0, 2);
      int n = near(0, 40);
      same("row " + r + " " + lane + " " + n, x.row(r, lane, n), y.row(r, lane, n));
    } else if (which == 1) {
      int i = near(0, 20);
      int v = dice.nextBoolean() ? dice.nextInt(6) : dice.nextInt();
      same("set " + r + " " + i + " " + v, x.set(r, i, v), y.set(r, i, v));
    } else if (which == 2) {
      int b = dice.nextBoolean() ? r : near(0, 7);
      int i = near(0, 15);
      int j = near(0, 15);
      int n = near(0, 15);
      same("copy " + r + " " + i + " " + b + " " + j + " " + n, x.copy(r, i, b, j, n), y.copy(r, i, b, j, n));
    } else if (dice.nextInt(4) == 0) same("drop " + r, x.drop(r), y.drop(r));
  }

  private void actCall(int which) {
    int c = aCard();
    int d = aDrawer();
    int k = near(0, 1);
    int o = near(0, 7);
    int n = near(1, dice.nextInt(4) == 0 ? 24 : 3);
    switch (which) {
      case 4: same("feed " + o, x.feed(o * 31), y.feed(o * 31)); break;
      case 5: case 6: same("undo", x.undo(), y.undo()); break;
      case 7: case 8: same("put " + c + " " + d, x.put(c, d), y.put(c, d)); break;
      case 9: same("turn " + d, x.turn(d), y.turn(d)); break;
      case 10: case 11: same("like " + c + " " + o, x.like(c, o), y.like(c, o)); break;
      case 12: same("image " + k, x.image(k), y.image(k)); break;
      case 13: same("restore " + k, x.restore(k), y.restore(k)); break;
      default: same("nights " + n, x.nights(n), y.nights(n));
    }
  }

  private void foretoldCall(int which) {
    int c = aCard();
    int d = aDrawer();
    int w = near(0, 1);
    int w3 = near(0, 3);
    int n60 = near(0, 60);
    int n20 = near(1, 20);
    int n4 = near(1, 4);
    int ten = near(0, 10);
    int seed = near(1, 999999);
    int k = near(0, 5);
    switch (which) {
      case 16: same("ahead " + c + " " + n60 + " " + w, x.ahead(c, n60, w), y.ahead(c, n60, w)); break;
      case 17: same("found " + c + " " + d, x.found(c, d), y.found(c, d)); break;
      case 18: same("still " + w, x.still(w), y.still(w)); break;
      case 19: same("mates", x.mates(), y.mates()); break;
      case 20: same("rods " + c + " " + d + " " + n20, x.rods(c, d, n20, w), y.rods(c, d, n20, w)); break;
      case 21: same("tour " + n4 + " " + w, x.tour(n4, w), y.tour(n4, w)); break;
      case 22: case 23: case 24: fitsCall(c, w3); break;
      case 25: same("asleep " + c + " " + d + " " + ten, x.asleep(c, d, ten, w), y.asleep(c, d, ten, w)); break;
      case 26: same("drawn " + n60 + " " + seed + " " + w, x.drawn(n60, seed, w), y.drawn(n60, seed, w)); break;
      case 27: same("kind " + c, x.kind(c), y.kind(c)); break;
      case 28: same("as " + c + " " + k, x.as(c, k), y.as(c, k)); break;
      default: same("ask " + c + " " + w, x.ask(c, w), y.ask(c, w));
    }
  }

  /** Half of the rows are filled with what is foretold of the card, so that something fits. */
  private void fitsCall(int c, int what) {
    int r = near(0, 7);
    int i = near(0, 6);
    int n = near(1, 12);
    if (dice.nextBoolean() && r >= 0 && r < 8) {
      int lane = dice.nextInt(3);
      same("row " + r + " " + lane + " 18", x.row(r, lane, 18), y.row(r, lane, 18));
      for (int k = 0; k < n && i >= 0 && i < 7 && k < 12; k++) {
        int v = y.ahead(c, k + 1, 0);
        same("set " + r + " " + (i + k) + " " + v, x.set(r, i + k, v), y.set(r, i + k, v));
      }
    }
    String call = "fits " + c + " " + r + " " + i + " " + n + " " + what;
    same(call, x.fits(c, r, i, n, what), y.fits(c, r, i, n, what));
  }

  /** Some of what can be seen, drawn; the whole would use the calls up. */
  private void glance() {
    int c = dice.nextInt(8);
    int d = dice.nextInt(6);
    int i = dice.nextInt(7);
    int what = dice.nextInt(8);
    sameYet("count", what, x.count(what), y.count(what));
    sameYet("count", 7, x.count(7), y.count(7));
    sameYet("status", 0, x.status(), y.status());
    sameYet("trace", i, x.trace(i), y.trace(i));
    sameYet("card " + c, what % 4, x.card(c, what % 4), y.card(c, what % 4));
    sameYet("drawer " + d, what % 3, x.drawer(d, what % 3), y.drawer(d, what % 3));
  }

  private void picture() {
    for (int what = 0; what <= 8; what++) sameYet("count", what, x.count(what), y.count(what));
    sameYet("status", 0, x.status(), y.status());
    sameYet("fault", 0, x.fault(), y.fault());
    for (int i = -1; i < 8; i++) sameYet("trace", i, x.trace(i), y.trace(i));
    for (int c = 0; c < 8; c++) {
      for (int what = 0; what < 5; what++) sameYet("card " + c, what, x.card(c, what), y.card(c, what));
    }
    for (int d = 0; d < 6; d++) {
      for (int what = 0; what < 4; what++) sameYet("drawer " + d, what, x.drawer(d, what), y.drawer(d, what));
    }
  }
}
