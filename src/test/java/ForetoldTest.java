/** Promises 16 to 24: what is foretold, by hand-made catalogues whose nights can be followed on paper. */
public final class ForetoldTest {
  public static void main(String[] args) {
    withoutCatalogue();
    aheadAndFound();
    stillAndRound();
    mates();
    rods();
    tours();
    sortsAndLikings();
    holdingsAndStarts();
    fitsRefused();
    asleep();
    drawn();
    nothingChanges();
    Checks.end("ForetoldTest");
  }

  private static void withoutCatalogue() {
    DrawerCards x = new DrawerCards();
    x.row(0, 0, 4);
    Checks.allDue("no catalogue: STATE, ahead of BAD", Checks.STATE, () -> x.still(0), () -> x.still(9), () -> x.mates(),
        () -> x.tour(1, 0), () -> x.tour(0, 9), () -> x.drawn(0, 1, 0), () -> x.drawn(-1, 0, 9));
    Checks.allDue("no catalogue: BAD", Checks.BAD, () -> x.ahead(0, 0, 0), () -> x.found(0, 0), () -> x.rods(0, 0, 1, 0),
        () -> x.fits(0, 0, 0, 1, 0), () -> x.asleep(0, 0, 0, 0));
  }

  private static void aheadAndFound() {
    // 0||||1|, |0|||1|, ... : card 0 goes a drawer each night until it is behind card 1.
    DrawerCards x = Checks.read("c6,2;f0,1;r4,0;o5,0;");
    int[] drawers = {0, 1, 2, 3, 4, 4};
    for (int d = 0; d < 6; d++) Checks.due("ahead " + d, x.ahead(0, d, 0), drawers[d]);
    Checks.due("place", x.ahead(0, 3, 1), 0);
    Checks.due("place behind its dear", x.ahead(0, 4, 1), 1);
    Checks.due("ahead 60", x.ahead(0, 60, 0), 4);
    // The old one goes to drawer 4 in the first night, to 3 in the third; there it meets card 0.
    int[] old = {5, 4, 4, 3, 3, 3};
    for (int d = 0; d < 6; d++) Checks.due("ahead of the old one " + d, x.ahead(2, d, 0), old[d]);
    for (int d = 0; d < 5; d++) Checks.due("found in " + d, x.found(0, d), d);
    Checks.due("found in 5", x.found(0, 5), Checks.NONE);
    Checks.due("the old one in 3", x.found(2, 3), 3);
    x.nights(1);
    Checks.due("odd nights count on from now", x.ahead(2, 1, 0), 4);
    Checks.allDue("bad", Checks.BAD, () -> x.ahead(3, 0, 0), () -> x.ahead(-1, 0, 0), () -> x.ahead(0, -1, 0),
        () -> x.ahead(0, 61, 0), () -> x.ahead(0, 0, 2), () -> x.ahead(0, 0, -1),
        () -> x.found(3, 0), () -> x.found(-1, 0), () -> x.found(0, 6), () -> x.found(0, -1));
  }

  private static void stillAndRound() {
    DrawerCards x = Checks.read("c6,2;f0,1;r4,0;");
    Checks.due("still when it is there", x.still(0), 4);
    Checks.due("never as now", x.still(1), Checks.NONE);
    x.nights(4);
    Checks.due("still now", x.still(0), 0);
    Checks.due("as now", x.still(1), 1);
    Checks.allDue("bad", Checks.BAD, () -> x.still(2), () -> x.still(-1));
    // An odd night holds an old one: the second one is the first that goes by so.
    Checks.due("old", Checks.read("c4,2;o0,1;r3,0;").still(0), 1);
    // 0 goes behind 1, then 1 behind 0: in the morning all are where they were.
    Checks.due("to and fro within a night", Checks.read("c2,2;f0,1;f0,0;").still(0), 0);
    // 012: 1 behind 2, 2 past 0: 201; then 1 behind 2: 210; then nothing.
    Checks.due("two nights", Checks.read("c2,3;r0,7;f0,2;b0,7;").still(0), 2);
    // Both come into drawer 0; then 0 goes behind 1 in odd nights, 1 behind 0 in even ones.
    DrawerCards y = Checks.read("c2,3;f1,1;o0,0;");
    Checks.due("never still", y.still(0), Checks.NONE);
    Checks.due("never as now", y.still(1), Checks.NONE);
    y.nights(1);
    Checks.due("as then again", y.still(1), 2);
    rounds();
  }

  private static void rounds() {
    // 1|02| , 02|1| , 2|10| , 1|02|
    DrawerCards x = Checks.read("c3,2;f1,1;o0,2;f1,0;");
    Checks.due("round", x.still(1), 3);
    Checks.due("never still", x.still(0), Checks.NONE);
    x.nights(1);
    Checks.stand("a night", x, "02|1|");
    x.nights(1);
    Checks.stand("two nights", x, "2|10|");
    x.nights(1);
    Checks.stand("three nights", x, "1|02|");
    // 012| , 021| , 012|: places count too.
    Checks.due("round by places", Checks.read("c2,4;o0,2;f0,0;o0,0;").still(1), 2);
    // 012: 2 behind 0: 021; then 0 is the first yet, and still.
    Checks.due("no round", Checks.read("c2,4;b0,7;r0,7;o0,0;").still(1), Checks.NONE);
  }

  private static void mates() {
    Checks.due("mates", Checks.read("c2,4;r0,1;r0,0;r0,0;r1,0;r1,3;r0,2;").mates(), 2 | 16 | 32);
    Checks.due("of another drawer, the same places", Checks.read("c2,4;r0,2;r1,0;r0,1;").mates(), 0);
    Checks.due("whom they like is not there", Checks.read("c2,4;r0,2;r0,7;").mates(), 0);
    Checks.due("ahead of its dear", Checks.read("c2,4;r0,1;r0,7;").mates(), 0);
  }

  private static void rods() {
    DrawerCards x = Checks.read("c6,2;f0,1;f2,2;f4,7;r5,0;");
    // Card 1 goes 2, 3, 4; card 0 after it: 1, 2, 3 behind three nights.
    Checks.due("none needed", x.rods(0, 3, 3, 0), 0);
    Checks.due("none", x.rods(0, 3, 3, 1), 0);
    Checks.due("card 1 on a rod: how many", x.rods(0, 2, 3, 0), 1);
    Checks.due("card 1 on a rod", x.rods(0, 2, 3, 1), 2);
    Checks.due("itself on a rod", x.rods(0, 0, 3, 1), 1);
    Checks.due("never", x.rods(0, 5, 3, 0), Checks.NONE);
    Checks.due("never which", x.rods(0, 5, 3, 1), Checks.NONE);
    Checks.due("20 nights", x.rods(0, 0, 20, 0), 1);
    Checks.allDue("bad", Checks.BAD, () -> x.rods(4, 0, 1, 0), () -> x.rods(-1, 0, 1, 0), () -> x.rods(0, 6, 1, 0),
        () -> x.rods(0, -1, 1, 0), () -> x.rods(0, 0, 0, 0), () -> x.rods(0, 0, 21, 0), () -> x.rods(0, 0, 1, 2),
        () -> x.rods(0, 0, 1, -1));
    Checks.due("a dear that is not there", Checks.read("c3,1;f0,3;f2,3;").rods(0, 1, 1, 0), Checks.NONE);
    // Drawer 1 holds one more: card 2 gets in only if both that come ahead of it are held.
    DrawerCards z = Checks.read("c4,2;f0,3;f0,3;f2,3;r1,0;");
    Checks.due("both to be held: how many", z.rods(2, 1, 1, 0), 2);
    Checks.due("both to be held", z.rods(2, 1, 1, 1), 3);
    // Either of two would do: the least set is taken.
    DrawerCards w = Checks.read("c3,3;f0,3;f0,3;f2,3;r1,0;");
    Checks.due("0 or 1 must be held", w.rods(2, 1, 1, 1), 1);
    Checks.due("one of them", w.rods(2, 1, 1, 0), 1);
    // The wild card 0 fills drawer 1 ahead of card 1, unless it is held.
    DrawerCards v = Checks.read("c3,3;w2,3;f0,0;r1,7;b1,7;");
    Checks.due("the wild one to be held", v.rods(1, 1, 1, 1), 1);
    Checks.due("none: card 1 stays as it is", v.rods(1, 0, 1, 1), 0);
    Checks.due("both wild ones to be held", Checks.read("c4,2;w0,3;w3,3;f2,3;r1,0;").rods(2, 1, 1, 1), 3);
  }

  private static void tours() {
    DrawerCards x = Checks.read("c3,4;r0,1;r0,7;r1,0;f2,2;r2,0;");
    Checks.due("one look", x.tour(1, 0), 2);
    Checks.due("the first such", x.tour(1, 1), 0);
    // Card 3 goes to drawer 1 in the first night.
    Checks.due("two looks", x.tour(2, 0), 4);
    Checks.due("drawers 0, 1 ahead of 2, 0", x.tour(2, 1), 1);
    Checks.due("three looks", x.tour(3, 0), 5);
    Checks.due("drawers 0, 1, 2", x.tour(3, 1), 12);
    Checks.due("four looks", x.tour(4, 0), 5);
    Checks.due("drawers 0, 0, 1, 2", x.tour(4, 1), 12);
    Checks.allDue("bad", Checks.BAD, () -> x.tour(0, 0), () -> x.tour(5, 0), () -> x.tour(1, 2), () -> x.tour(1, -1));
    DrawerCards y = Checks.read("c6,1;r5,1;r4,0;");
    Checks.due("one card", y.tour(1, 1), 4);
    Checks.due("far drawers", y.tour(2, 1), 45);
    Checks.due("far drawers, four looks", y.tour(4, 1), 45);
    // Looked at behind a night: the card that comes counts, once.
    DrawerCards z = Checks.read("c3,4;w2,1;r0,7;");
    Checks.due("now and then", z.tour(2, 0), 2);
    Checks.due("the same drawer twice", z.tour(2, 1), 0);
  }

  private static DrawerCards told(String text, int... drawers) {
    DrawerCards x = Checks.read(text);
    x.row(3, 2, drawers.length + 1);
    x.set(3, 0, 99);
    for (int i = 0; i < drawers.length; i++) x.set(3, i + 1, drawers[i]);
    return x;
  }

  private static void sortsAndLikings() {
    DrawerCards x = told("c4,3;f0,1;r3,0;r2,0;", 1, 2, 3);
    Checks.due("free", x.fits(0, 3, 1, 3, 0), 1 << 1);
    Checks.due("free or old by one night", x.fits(0, 3, 1, 1, 0), 1 << 1 | 1 << 2);
    Checks.due("likes 1", x.fits(0, 3, 1, 3, 1), 1 << 1);
    Checks.due("likes 1 or 2", x.fits(0, 3, 1, 2, 1), 1 << 1 | 1 << 2);
    Checks.due("from a later item on", x.fits(0, 3, 3, 1, 0), 1 << 3);
    DrawerCards y = told("c4,3;f0,1;r3,0;r2,0;", 1, 1, 2, 2, 3, 3, 3, 3, 3, 3, 3, 3);
    Checks.due("old, 12 nights", y.fits(0, 3, 1, 12, 0), 1 << 2);
    DrawerCards z = told("c4,3;f0,1;r3,0;r2,0;", 0, 0);
    Checks.due("rod or blank", z.fits(0, 3, 1, 2, 0), 1 << 4 | 1 << 5);
    Checks.due("those that are not there", z.fits(0, 3, 1, 2, 1), 0xF8);
    Checks.due("not its own number", z.fits(2, 3, 1, 1, 1) & 4, 0);
    Checks.due("what is no drawer", told("c4,3;f0,1;", -1).fits(0, 3, 1, 1, 0), 0);
  }

  private static void holdingsAndStarts() {
    // Card 0 comes in beside two others, if a drawer holds three.
    DrawerCards x = told("c2,2;f0,1;r1,0;r1,0;", 1);
    Checks.due("three or more", x.fits(0, 3, 1, 1, 2), 0x1F8);
    Checks.due("starts", x.fits(0, 3, 1, 1, 3), 1 << 1);
    DrawerCards y = told("c2,2;f0,1;r1,0;r1,0;", 0);
    Checks.due("two or fewer", y.fits(0, 3, 1, 1, 2), 1 << 1 | 1 << 2);
    DrawerCards z = told("c5,8;f0,1;r4,0;", 3, 4);
    Checks.due("starts in 2", z.fits(0, 3, 1, 2, 3), 1 << 2);
    Checks.due("starts in 3 or 4", z.fits(0, 3, 2, 1, 3), 1 << 3 | 1 << 4);
    DrawerCards w = told("c2,1;w0,1;r1,0;", 1);
    Checks.due("whatever that holds", w.fits(0, 3, 1, 1, 3), 1 << 1);
    // From drawer 2 card 0 would have to go through drawer 1, which is full.
    DrawerCards v = told("c3,2;f2,1;r0,0;r1,0;r1,0;", 1);
    Checks.due("its own: not into the full one", v.fits(0, 3, 1, 1, 3), 0);
    DrawerCards u = told("c3,2;f2,1;r0,0;r1,0;r1,0;", 0);
    Checks.due("from the overfull one, or from 0", u.fits(0, 3, 1, 1, 3), 1 << 0 | 1 << 1);
    Checks.stand("fits", u, "1|23|0");
  }

  private static void fitsRefused() {
    DrawerCards x = told("c4,3;f0,1;r3,0;", 1, 2, 3);
    Checks.allDue("bad", Checks.BAD, () -> x.fits(2, 3, 0, 1, 0), () -> x.fits(-1, 3, 0, 1, 0),
        () -> x.fits(0, 8, 0, 1, 0), () -> x.fits(0, -1, 0, 1, 0), () -> x.fits(0, 3, 0, 0, 0),
        () -> x.fits(0, 3, 0, 13, 0), () -> x.fits(0, 3, 0, 1, 4), () -> x.fits(0, 3, 0, 1, -1),
        () -> x.fits(2, 5, 9, 1, 0), () -> x.fits(0, 5, 0, -1, 0));
    Checks.allDue("missing", Checks.NULL, () -> x.fits(0, 5, 0, 1, 0), () -> x.fits(0, 5, -1, 12, 3));
    Checks.allDue("places", Checks.PLACE, () -> x.fits(0, 3, -1, 1, 0), () -> x.fits(0, 3, 4, 1, 0),
        () -> x.fits(0, 3, 2, 3, 0), () -> x.fits(0, 3, Integer.MAX_VALUE, 12, 0),
        () -> x.fits(0, 3, Integer.MIN_VALUE, 1, 0));
  }

  private static void fraction(DrawerCards x, int card, int drawer, int c, int above, int below) {
    Checks.due("asleep by " + c + ": above", x.asleep(card, drawer, c, 0), above);
    Checks.due("asleep by " + c + ": below", x.asleep(card, drawer, c, 1), below);
  }

  private static void asleep() {
    DrawerCards x = Checks.read("c3,3;f0,1;r1,0;f0,0;");
    fraction(x, 0, 1, 0, 1, 1);
    fraction(x, 0, 1, 3, 7, 10);
    fraction(x, 0, 0, 3, 3, 10);
    fraction(x, 0, 1, 5, 1, 2);
    fraction(x, 0, 1, 10, 0, 1);
    fraction(x, 0, 0, 10, 1, 1);
    fraction(x, 0, 2, 4, 0, 1);
    // Card 2 goes to drawer 1 if it wakes and card 0 went ahead of it.
    fraction(x, 2, 1, 4, 9, 25);
    fraction(x, 2, 0, 4, 16, 25);
    Checks.allDue("bad", Checks.BAD, () -> x.asleep(3, 0, 0, 0), () -> x.asleep(-1, 0, 0, 0), () -> x.asleep(0, 3, 0, 0),
        () -> x.asleep(0, -1, 0, 0), () -> x.asleep(0, 0, -1, 0), () -> x.asleep(0, 0, 11, 0), () -> x.asleep(0, 0, 0, 2),
        () -> x.asleep(0, 0, 0, -1));
    // Card 6 goes over if it wakes and all ahead of it did, one after another; 7 is on a rod.
    DrawerCards y = Checks.read("c2,8;f0,7;f0,0;f0,1;f0,2;f0,3;f0,4;f0,5;r1,0;");
    fraction(y, 6, 1, 1, 4782969, 10000000);
    // Card 7 goes to 6 at once if it wakes, unless that came to it: 0.9 times 0.5217031.
    DrawerCards z = Checks.read("c2,8;f0,7;f0,0;f0,1;f0,2;f0,3;f0,4;f0,5;w1,6;");
    fraction(z, 7, 0, 1, 46953279, 100000000);
    // An old one has no turn in an odd night, awake or not.
    DrawerCards w = Checks.read("c3,3;o0,1;r2,0;");
    fraction(w, 0, 1, 2, 4, 5);
    w.nights(1);
    fraction(w, 0, 1, 2, 1, 1);
  }

  private static void drawn() {
    // X: 16807, 282475249, 1622650073: cards X rest 2 are 1, 1, 1; drawers X rest 2 are the same.
    DrawerCards x = Checks.read("c2,2;r0,1;r0,0;");
    Checks.due("as now", x.drawn(0, 1, 0), 0);
    Checks.due("none", x.drawn(0, 1, 1), 0);
    Checks.due("one night", x.drawn(1, 1, 0), 1);
    Checks.due("two nights", x.drawn(2, 1, 0), 1);
    // By 2 cards 1, 1, 1; by 3 drawers 1, 1, 2: drawer 1 holds no more.
    DrawerCards y = Checks.read("c3,1;r1,1;r0,0;");
    Checks.due("a full one", y.drawn(2, 1, 0), 10);
    Checks.due("the third is free", y.drawn(3, 1, 0), 12);
    // By 2 cards 1, 1, 1; by 3 drawers 1, 1, 2.
    DrawerCards z = Checks.read("c3,2;r1,1;r0,0;");
    Checks.due("one night", z.drawn(1, 1, 0), 11);
    Checks.due("three nights", z.drawn(3, 1, 0), 12);
    Checks.due("behind whom it likes in two of them", z.drawn(3, 1, 1), 2);
    // Its own drawer, though full: card 1 comes behind card 2, which is then no more behind it.
    DrawerCards w = Checks.read("c2,2;b0,7;r1,0;r1,1;");
    Checks.due("into its own", w.drawn(1, 1, 1), 0);
    Checks.allDue("bad", Checks.BAD, () -> x.drawn(-1, 1, 0), () -> x.drawn(61, 1, 0), () -> x.drawn(0, 0, 0),
        () -> x.drawn(0, 1000000, 0), () -> x.drawn(0, 1, 2), () -> x.drawn(0, 1, -1));
    Checks.due("the last seed", x.drawn(0, 999999, 0), 0);
  }

  private static void nothingChanges() {
    DrawerCards x = told("c4,3;f0,2;o0,3;w3,1;r2,0;b2,7;f3,0;", 1, 1);
    x.nights(1);
    String before = Checks.shelves(x) + x.count(3) + x.count(4) + x.count(5) + x.count(7);
    x.ahead(0, 60, 0);
    x.found(0, 3);
    x.still(0);
    x.still(1);
    x.mates();
    x.rods(0, 3, 20, 0);
    x.tour(4, 1);
    for (int what = 0; what < 4; what++) x.fits(0, 3, 1, 2, what);
    x.asleep(0, 1, 5, 0);
    x.drawn(60, 5, 0);
    String behind = Checks.shelves(x) + x.count(3) + x.count(4) + x.count(5) + x.count(7);
    Checks.tell(before.equals(behind), "what is foretold changed " + before + " into " + behind);
    Checks.due("kind yet", x.kind(0), 1);
    Checks.due("liking yet", x.card(0, 2), 2);
  }
}
