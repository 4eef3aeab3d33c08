import java.io.IOException;
import java.util.ArrayList;
import java.util.List;
import java.util.function.IntSupplier;

/** Boundaries of promises 16 to 24: what is foretold, fitted, drawn. */
public final class ForetoldEdgesTest extends Edges {
  /** Card 1 comes into drawer 0 behind 255 nights first: some two hundred nights in which hardly anything comes again. */
  private static final String LONG_WAY = "c6,4;f3,3;o4,6;w2,3;w0,6;o5,7;f2,7;w5,7;w2,2;";
  private static final String ALL_KINDS = "c4,3;f0,2;o0,3;w3,1;r2,0;b2,7;f3,0;";
  private static final String WALK = "c6,2;f0,1;r5,7;";

  public static void main(String[] args) throws IOException, IllegalAccessException {
    run(ForetoldEdgesTest.class, 16, 24);
  }

  private static void changesNothing(DrawerCards x, IntSupplier... calls) {
    x.ask(0, 0);
    String before = picture(x);
    for (IntSupplier call : calls) call.getAsInt();
    tell(before.equals(picture(x)), before + "\n  became " + picture(x));
  }

  /** At NIGHT 9999: no further night can pass, but it can be foretold. */
  private static DrawerCards inTheLastNight(String text) {
    DrawerCards x = read(text);
    pass(x, 9999);
    return x;
  }

  // ---- ahead

  @Promise(number = 16, says = "The DRAWER (what = 0), the PLACE (1), d NIGHTS on. BAD.")
  static void aheadOfNoCardOrNoWhat() {
    DrawerCards x = read(ALL_KINDS);
    refused(x, BAD, () -> x.ahead(-1, 0, 0), () -> x.ahead(6, 0, 0), () -> x.ahead(MIN, 0, 0), () -> x.ahead(MAX, 0, 0),
        () -> x.ahead(0, 0, -1), () -> x.ahead(0, 0, 2), () -> x.ahead(0, 0, MIN), () -> x.ahead(0, 0, MAX));
    due("the first card", x.ahead(0, 0, 0), 0);
    due("the last card", x.ahead(5, 0, 1), 1);
  }

  @Promise(number = 16, says = "FORETOLD (nothing changes) d NIGHTS on (0 to 60)")
  static void aheadTooFewOrTooMany() {
    DrawerCards x = read(WALK);
    refused(x, BAD, () -> x.ahead(0, -1, 0), () -> x.ahead(0, 61, 0), () -> x.ahead(0, MIN, 0), () -> x.ahead(0, MAX, 0));
    due("0 nights on", x.ahead(0, 0, 0), 0);
    due("1 night on", x.ahead(0, 1, 0), 1);
    due("60 nights on", x.ahead(0, 60, 0), 5);
    changesNothing(x, () -> x.ahead(0, 60, 0), () -> x.ahead(0, 60, 1), () -> x.ahead(0, 0, 0));
  }

  @Promise(number = 16, says = "FORETOLD (nothing changes) d NIGHTS on (0 to 60)")
  static void aheadToTheLastNight() {
    DrawerCards x = read(LONG_WAY);
    pass(x, 195);
    int before = x.ahead(1, 59, 0);
    tell(before != 0 && before != NONE, "it is not in drawer 0 behind 59 nights");
    due("it is behind 60", x.ahead(1, 60, 0), 0);
  }

  @Promise(number = 16, says = "the DRAWER, the PLACE of a CARD")
  static void aheadIsWhatNightsBring() {
    for (int d = 0; d <= 24; d++) {
      DrawerCards x = read(LONG_WAY);
      int[] told = new int[16];
      for (int c = 0; c < 8; c++) {
        told[c] = x.ahead(c, d, 0);
        told[8 + c] = x.ahead(c, d, 1);
      }
      if (d > 0) x.nights(d);
      for (int c = 0; c < 8; c++) {
        due("drawer of " + c + ", " + d + " on", told[c], x.card(c, 0));
        due("place of " + c + ", " + d + " on", told[8 + c], x.card(c, 1));
      }
    }
  }

  @Promise(number = 16, says = "FORETOLD (nothing changes)")
  static void aheadBeyondTheLastNight() {
    DrawerCards x = inTheLastNight("c6,1;o0,1;r5,7;");
    x.put(0, 0);
    // NIGHT 9999 is odd, the old one goes in the second, the fourth, ...
    int[] want = {0, 0, 1, 1, 2, 2, 3};
    for (int d = 0; d < want.length; d++) due(d + " on", x.ahead(0, d, 0), want[d]);
    due("60 on", x.ahead(0, 60, 0), 4);
    due("NIGHT yet", x.count(3), 9999);
    stand("what is foretold", x, "0|||||1");
  }

  // ---- found

  @Promise(number = 17, says = "FOUND; NONE. BAD.")
  static void foundOfNoCardOrNoDrawer() {
    DrawerCards x = read(WALK);
    refused(x, BAD, () -> x.found(-1, 0), () -> x.found(2, 0), () -> x.found(0, -1), () -> x.found(0, 6),
        () -> x.found(MIN, 0), () -> x.found(MAX, 0), () -> x.found(0, MIN), () -> x.found(0, MAX));
    due("the last card in the last drawer", x.found(1, 5), 0);
  }

  @Promise(number = 17, says = "FOUND: behind how many NIGHTS (0 to 60) a CARD is in a DRAWER first; NONE.")
  static void foundNowAndNever() {
    DrawerCards x = read(WALK);
    due("now", x.found(0, 0), 0);
    due("behind one", x.found(0, 1), 1);
    due("behind five", x.found(0, 5), 5);
    due("never", x.found(1, 4), NONE);
    changesNothing(x, () -> x.found(0, 5), () -> x.found(1, 4));
  }

  @Promise(number = 17, says = "FOUND: behind how many NIGHTS (0 to 60) a CARD is in a DRAWER first; NONE.")
  static void foundInTheLastNightAndOneTooLate() {
    DrawerCards x = read(LONG_WAY);
    due("behind 255: too late", x.found(1, 0), NONE);
    pass(x, 194);
    due("behind 61: too late", x.found(1, 0), NONE);
    x.nights(1);
    due("behind 60", x.found(1, 0), 60);
    x.nights(1);
    due("behind 59", x.found(1, 0), 59);
  }

  @Promise(number = 17, says = "a CARD is in a DRAWER first")
  static void foundTheFirstOfSeveral() {
    // 1|02| , 02|1| , 2|10| , 1|02| : card 1 comes back to drawer 0.
    DrawerCards x = read("c3,2;f1,1;o0,2;f1,0;");
    due("it is there now", x.found(1, 0), 0);
    due("card 0 comes there", x.found(0, 0), 1);
    x.nights(1);
    due("card 1 comes back", x.found(1, 0), 2);
  }

  // ---- still

  @Promise(number = 18, says = "STILL (what = 0), ROUND (1); NONE. BAD")
  static void stillOfNoWhat() {
    DrawerCards x = read(WALK);
    refused(x, BAD, () -> x.still(-1), () -> x.still(2), () -> x.still(MIN), () -> x.still(MAX));
  }

  @Promise(number = 18, says = "STATE: no CATALOGUE (ahead of BAD)")
  static void stillWithoutCatalogue() {
    DrawerCards x = new DrawerCards();
    refused(x, STATE, () -> x.still(0), () -> x.still(1), () -> x.still(-1), () -> x.still(2), () -> x.still(MAX));
  }

  @Promise(number = 18, says = "STILL: behind how many NIGHTS (0 to 200) the first one goes by")
  static void stillFromTheFirstNightOn() {
    due("one card on a rod", read("c2,1;r0,1;").still(0), 0);
    due("none has room", read("c2,1;f0,1;f1,0;").still(0), 0);
    due("behind one", read("c2,2;f0,1;r1,7;").still(0), 1);
    due("behind five", read(WALK).still(0), 5);
  }

  @Promise(number = 18, says = "in which all CARDS stay in their DRAWERS and PLACES")
  static void placesStirToo() {
    due("a blank", read("c2,3;r0,7;r0,7;b0,7;").still(0), 2);
    due("a free one within its drawer", read("c2,3;f0,1;r0,7;").still(0), 1);
    // An old one alone: the odd night goes by so, though it has not come yet.
    due("an old one", read("c6,1;o0,1;r5,7;").still(0), 1);
  }

  /** 06|32|||457|1 : still behind 201 nights. */
  private static DrawerCards longUnrest() {
    DrawerCards x = read("c6,4;w0,1;w5,4;w1,3;o1,6;w4,6;o4,1;w0,0;o4,1;");
    x.put(2, 1);
    return x;
  }

  @Promise(number = 18, says = "STILL: behind how many NIGHTS (0 to 200) the first one goes by")
  static void stillInTheLastNightAndOneTooLate() {
    DrawerCards x = longUnrest();
    changesNothing(x, () -> x.still(0), () -> x.still(1));
    due("behind 201: too late", x.still(0), NONE);
    x.nights(1);
    due("behind 200", x.still(0), 200);
    x.nights(1);
    due("behind 199", x.still(0), 199);
    pass(x, 198);
    due("behind 1", x.still(0), 1);
    x.nights(1);
    due("now", x.still(0), 0);
  }

  @Promise(number = 18, says = "ROUND: behind how many NIGHTS (1 to 200) all are in DRAWERS and PLACES as now first; NONE.")
  static void roundFromOneNightOn() {
    due("one card on a rod", read("c2,1;r0,1;").still(1), 1);
    due("an odd night first", read("c2,2;o0,1;r1,7;").still(1), NONE);
    DrawerCards x = read("c2,2;o0,1;r1,7;");
    x.nights(1);
    x.put(0, 0);
    due("as now behind the odd night", x.still(1), 1);
    due("never again", read(WALK).still(1), NONE);
    due("places alone", read("c2,2;r0,7;b0,7;").still(1), NONE);
  }

  @Promise(number = 18, says = "ROUND: behind how many NIGHTS (1 to 200) all are in DRAWERS and PLACES as now first; NONE.")
  static void roundInTheLastNight() {
    DrawerCards x = read("c6,4;f2,7;f3,4;w5,4;o1,5;w0,5;w5,7;o1,2;w5,2;");
    x.put(5, 5);
    stand("put", x, "4|36|0|1||275");
    due("behind 200", x.still(1), 200);
    String before = Checks.shelves(x);
    pass(x, 199);
    tell(!before.equals(Checks.shelves(x)), "it is not as then behind 199");
    x.nights(1);
    stand("200 nights", x, before);
  }

  /** Cards are put so that they stand as told, wherever they are now. */
  private static void arrange(DrawerCards x, String shelves) {
    String[] drawers = shelves.split("\\|");
    // A drawer may be full until another card has left it: a second time they go.
    for (int pass = 0; pass < 2; pass++) {
      for (int d = 0; d < drawers.length; d++) for (char c : drawers[d].toCharArray()) x.put(c - '0', d);
    }
    stand("puts", x, shelves);
  }

  @Promise(number = 18, says = "ROUND: behind how many NIGHTS (1 to 200) all are in DRAWERS and PLACES as now first; NONE.")
  static void roundOneTooLate() {
    DrawerCards x = read("c6,4;w0,4;o3,7;o4,5;f3,5;w0,5;w5,6;w0,0;o2,4;");
    // It must be an odd night.
    x.nights(1);
    arrange(x, "406||7|13|2|5");
    due("behind 201: too late", x.still(1), NONE);
    pass(x, 201);
    stand("201 nights", x, "406||7|13|2|5");
  }

  @Promise(number = 18, says = "FORETOLD (nothing changes)")
  static void stillBeyondTheLastNight() {
    DrawerCards x = inTheLastNight(WALK);
    x.put(0, 0);
    due("behind five", x.still(0), 5);
    due("never again", x.still(1), NONE);
    due("NIGHT yet", x.count(3), 9999);
    stand("what is foretold", x, "0|||||1");
  }

  // ---- mates

  @Promise(number = 19, says = "MATES. STATE: no CATALOGUE.")
  static void matesWithoutCatalogue() {
    DrawerCards x = new DrawerCards();
    refused(x, STATE, () -> x.mates());
  }

  @Promise(number = 19, says = "MATES: CARDS (bits) that stand right behind whom they LIKE.")
  static void noneAndAllAreMates() {
    due("one card alone", read("c2,1;r0,1;").mates(), 0);
    due("all but the first", read("c2,8;r0,7;r0,0;r0,1;r0,2;r0,3;r0,4;r0,5;r0,6;").mates(), 254);
    due("the last number that is no card's", read("c2,2;r0,2;r0,2;").mates(), 0);
  }

  @Promise(number = 19, says = "MATES: CARDS (bits) that stand right behind whom they LIKE.")
  static void almostMates() {
    due("right ahead of its dear", read("c2,2;r0,1;r0,7;").mates(), 0);
    due("one between them", read("c2,3;r0,7;r0,7;r0,0;").mates(), 0);
    due("a place behind, in another drawer", read("c2,2;r0,7;r1,7;r1,0;").mates(), 0);
    due("right behind", read("c2,3;r0,7;r0,7;r0,1;").mates(), 4);
    DrawerCards x = read("c2,2;r0,1;r0,7;");
    x.turn(0);
    due("turned", x.mates(), 1);
    changesNothing(x, () -> x.mates());
  }

  // ---- rods

  @Promise(number = 20, says = "RODS: how many (what = 0), which (1); NONE. BAD.")
  static void rodsOfNoSuchThing() {
    DrawerCards x = read(WALK);
    refused(x, BAD, () -> x.rods(-1, 0, 1, 0), () -> x.rods(2, 0, 1, 0), () -> x.rods(0, -1, 1, 0), () -> x.rods(0, 6, 1, 0),
        () -> x.rods(0, 0, 1, -1), () -> x.rods(0, 0, 1, 2), () -> x.rods(MIN, 0, 1, 0), () -> x.rods(0, MAX, 1, 0),
        () -> x.rods(0, 0, 1, MAX));
    due("the last card in the last drawer", x.rods(1, 5, 1, 0), 0);
  }

  @Promise(number = 20, says = "n NIGHTS (1 to 20)")
  static void rodsTooFewOrTooManyNights() {
    DrawerCards x = read(WALK);
    refused(x, BAD, () -> x.rods(0, 0, 0, 0), () -> x.rods(0, 0, 21, 0), () -> x.rods(0, 0, -1, 0),
        () -> x.rods(0, 0, MIN, 0), () -> x.rods(0, 0, MAX, 0));
    due("1 night", x.rods(0, 1, 1, 1), 0);
    due("20 nights", x.rods(0, 5, 20, 1), 0);
  }

  @Promise(number = 20, says = "so that it is in it behind these")
  static void noRodsWhereItIsForetold() {
    DrawerCards x = read(LONG_WAY);
    for (int n : new int[] {1, 19, 20}) {
      for (int c = 0; c < 8; c++) {
        int there = x.ahead(c, n, 0);
        due("how many for " + c + " behind " + n, x.rods(c, there, n, 0), 0);
        due("which for " + c + " behind " + n, x.rods(c, there, n, 1), 0);
        int other = (there + 1) % 6;
        tell(x.rods(c, other, n, 0) != 0, "none for " + c + " in " + other + " behind " + n);
      }
    }
  }

  @Promise(number = 20, says = "how many; which (bits), of several the least; NONE.")
  static void rodsForNever() {
    DrawerCards x = read("c3,1;f0,1;r1,7;");
    due("how many", x.rods(0, 2, 20, 0), NONE);
    due("which", x.rods(0, 2, 20, 1), NONE);
    due("no way into a full drawer", x.rods(0, 1, 20, 0), NONE);
  }

  @Promise(number = 20, says = "the fewest CARDS to be put on rods now")
  static void fiveMustBeHeld() {
    // Drawer 1 holds one more; each of 0 to 4 would come into it ahead of card 7.
    DrawerCards x = read("c3,3;f0,5;f0,5;f0,5;f2,5;f2,5;r1,7;r1,7;f2,5;");
    for (int n : new int[] {1, 20}) {
      due("how many", x.rods(7, 1, n, 0), 5);
      due("which", x.rods(7, 1, n, 1), 31);
    }
    due("itself", x.rods(7, 2, 1, 1), 0);
    changesNothing(x, () -> x.rods(7, 1, 20, 0), () -> x.rods(7, 1, 20, 1));
  }

  @Promise(number = 20, says = "the fewest CARDS to be put on rods now")
  static void allButItselfMustBeHeld() {
    // Card 4 goes from drawer 4 to drawer 1, where its dear is: each of the others would spoil it.
    DrawerCards x = read("c5,3;w3,5;f1,4;w2,7;f3,1;f4,1;f2,1;w0,5;f1,5;");
    due("how many", x.rods(4, 1, 3, 0), 7);
    due("which", x.rods(4, 1, 3, 1), 255 - (1 << 4));
  }

  @Promise(number = 20, says = "which (bits), of several the least")
  static void theLeastOfSeveral() {
    // Drawer 1 holds two more: cards 0 and 1 come into it ahead of card 2, unless one of them is held.
    DrawerCards x = read("c3,3;f0,3;f0,3;f2,3;r1,7;");
    due("0 or 1 must be held", x.rods(2, 1, 1, 1), 1);
    due("one", x.rods(2, 1, 1, 0), 1);
    // The last card alone: the greatest set of one.
    due("card 7 itself", read("c2,8;r0,1;r0,0;r0,0;r0,0;r0,0;r0,0;r0,0;f0,1;").rods(7, 0, 20, 1), 0);
    due("card 7 must be held", read("c2,8;r1,1;r0,0;r0,0;r0,0;r0,0;r0,0;r0,0;f0,0;").rods(7, 0, 20, 1), 128);
  }

  @Promise(number = 20, says = "those that are on one count, too, if they are taken")
  static void thoseOnRodsNeedNotBeTaken() {
    DrawerCards x = read("c2,2;r0,1;r1,0;");
    due("how many", x.rods(0, 0, 20, 0), 0);
    due("which", x.rods(0, 0, 20, 1), 0);
    due("it cannot leave its rod", x.rods(0, 1, 20, 0), NONE);
  }

  // ---- tour

  @Promise(number = 21, says = "TOUR: how many (what = 0), the DRAWERS (1). BAD")
  static void tourOfNoWhat() {
    DrawerCards x = read(WALK);
    refused(x, BAD, () -> x.tour(1, -1), () -> x.tour(1, 2), () -> x.tour(1, MIN), () -> x.tour(1, MAX));
  }

  @Promise(number = 21, says = "TOUR of n DRAWERS (1 to 4)")
  static void tourTooShortOrTooLong() {
    DrawerCards x = read("c6,2;r2,1;r2,0;r3,0;r3,0;r4,0;r4,0;r5,0;r5,0;");
    refused(x, BAD, () -> x.tour(0, 0), () -> x.tour(5, 0), () -> x.tour(-1, 0), () -> x.tour(MIN, 1), () -> x.tour(MAX, 1));
    int[] drawers = {2, 23, 234, 2345};
    for (int n = 1; n <= 4; n++) {
      due("how many by " + n, x.tour(n, 0), 2 * n);
      due("drawers by " + n, x.tour(n, 1), drawers[n - 1]);
    }
    changesNothing(x, () -> x.tour(4, 0), () -> x.tour(4, 1));
  }

  @Promise(number = 21, says = "STATE: no CATALOGUE (ahead of BAD)")
  static void tourWithoutCatalogue() {
    DrawerCards x = new DrawerCards();
    refused(x, STATE, () -> x.tour(1, 0), () -> x.tour(0, 0), () -> x.tour(5, 0), () -> x.tour(1, 2), () -> x.tour(MAX, MAX));
  }

  @Promise(number = 21, says = "the DRAWERS, as figures of one number, the first such (by these)")
  static void tourWithFiguresOfNone() {
    DrawerCards x = read("c6,1;r5,1;");
    for (int n = 1; n <= 4; n++) {
      due("how many by " + n, x.tour(n, 0), 1);
      due("drawers by " + n, x.tour(n, 1), 5);
    }
    DrawerCards y = read("c2,8;r0,1;r0,0;r0,0;r0,0;r0,0;r0,0;r0,0;r0,0;");
    due("all in drawer 0", y.tour(4, 0), 8);
    due("drawers 0, 0, 0, 0", y.tour(4, 1), 0);
    due("the last drawer each time", read("c2,8;r1,1;r1,0;").tour(1, 1), 1);
  }

  @Promise(number = 21, says = "one ahead of each NIGHT from now on, the first now")
  static void tourByItsNights() {
    // 06|1|2|3|4|5 , 6|0|1|23|4|5 , 6||0|321|4|5 , 6|||3210|4|5
    DrawerCards x = read("c6,8;f0,3;f1,3;f2,3;r3,7;r4,7;r5,7;r0,7;");
    due("all seven", x.tour(4, 0), 7);
    due("drawers 0, 4, 3, 5", x.tour(4, 1), 435);
    // The wild one leaves drawer 2 in the first night.
    DrawerCards y = read("c3,4;r2,7;w2,2;r0,7;");
    due("both of drawer 2 now", y.tour(1, 1), 2);
    due("all", y.tour(2, 0), 3);
    due("drawers 2, 0: behind a night it is in 0", read("c3,4;w2,1;r0,7;r2,7;").tour(2, 1), 20);
  }

  @Promise(number = 21, says = "(each counts once)")
  static void tourCountsOnce() {
    DrawerCards x = read("c2,1;f0,7;");
    for (int n = 1; n <= 4; n++) due("by " + n, x.tour(n, 0), 1);
    due("the same drawer again", read("c2,8;r0,7;r0,7;r0,7;").tour(4, 0), 3);
  }

  // ---- fits

  private static DrawerCards told(String text, int... drawers) {
    DrawerCards x = read(text);
    rowOf(x, 3, drawers);
    return x;
  }

  @Promise(number = 22, says = "BAD: CARD, ROW, n, what; NULL; PLACE.")
  static void fitsOfNoSuchThing() {
    DrawerCards x = told(WALK, 1, 2, 3);
    refused(x, BAD, () -> x.fits(-1, 3, 0, 1, 0), () -> x.fits(2, 3, 0, 1, 0), () -> x.fits(MIN, 3, 0, 1, 0),
        () -> x.fits(0, -1, 0, 1, 0), () -> x.fits(0, 8, 0, 1, 0), () -> x.fits(0, MAX, 0, 1, 0),
        () -> x.fits(0, 3, 0, 1, -1), () -> x.fits(0, 3, 0, 1, 4), () -> x.fits(0, 3, 0, 1, MIN),
        () -> x.fits(0, 3, 0, 1, MAX));
  }

  @Promise(number = 22, says = "behind each of n NIGHTS (1 to 12) from now on")
  static void fitsTooFewOrTooManyNights() {
    DrawerCards x = told(WALK, 1, 2, 3, 4, 5, 5, 5, 5, 5, 5, 5, 4, 4);
    refused(x, BAD, () -> x.fits(0, 3, 0, 0, 0), () -> x.fits(0, 3, 0, 13, 0), () -> x.fits(0, 3, 0, -1, 0),
        () -> x.fits(0, 3, 0, MIN, 0), () -> x.fits(0, 3, 0, MAX, 0));
    due("one night: free or old", x.fits(0, 3, 0, 1, 0), 1 << 1 | 1 << 2);
    due("eleven nights: free", x.fits(0, 3, 0, 11, 0), 1 << 1);
    due("the twelfth does not fit", x.fits(0, 3, 0, 12, 0), 0);
    x.set(3, 11, 5);
    due("the twelfth fits", x.fits(0, 3, 0, 12, 0), 1 << 1);
  }

  @Promise(number = 22, says = "1 NULL (a ROW that is missing)")
  static void fitsOfAMissingRow() {
    DrawerCards x = told(WALK, 1);
    refused(x, NULL, () -> x.fits(0, 0, 0, 1, 0), () -> x.fits(1, 7, 0, 12, 3), () -> x.fits(0, 2, -1, 1, 0));
    due("status()", x.status(), 1);
  }

  @Promise(number = 22, says = "2 PLACE (no such place of a ROW)")
  static void fitsBeyondTheEnds() {
    DrawerCards x = told(WALK, 9, 1, 2);
    refused(x, PLACE, () -> x.fits(0, 3, -1, 1, 0), () -> x.fits(0, 3, 3, 1, 0), () -> x.fits(0, 3, 0, 4, 0),
        () -> x.fits(0, 3, 2, 2, 0), () -> x.fits(0, 3, MIN, 1, 0), () -> x.fits(0, 3, MAX, 1, 0),
        () -> x.fits(0, 3, MAX, 12, 0), () -> x.fits(0, 3, -1, 3, 0));
    due("status()", x.status(), 2);
    due("up to the end", x.fits(0, 3, 1, 2, 0), 1 << 1);
    due("status()", x.status(), 0);
    x.row(0, 0, 0);
    due("an empty row", x.fits(0, 0, 0, 1, 0), PLACE);
  }

  @Promise(number = 22, says = "n ITEMS of a ROW from i on")
  static void fitsAtTheEndOfTheLongestRow() {
    DrawerCards x = read(WALK);
    x.row(6, 0, 40);
    for (int i = 28; i < 40; i++) x.set(6, i, Math.min(5, i - 27));
    due("the last twelve", x.fits(0, 6, 28, 12, 0), 1 << 1);
    due("one too far", x.fits(0, 6, 29, 12, 0), PLACE);
    due("the last one alone", x.fits(1, 6, 39, 1, 0) & 1 << 4, 1 << 4);
  }

  @Promise(number = 22, says = "the first of these that fits")
  static void fitsRefusalsInTheirOrder() {
    DrawerCards x = told(WALK, 1, 2);
    x.as(0, 4);
    refused(x, BAD, () -> x.fits(2, 0, -1, 1, 0), () -> x.fits(0, 0, -1, 13, 0), () -> x.fits(0, 0, 0, 1, 4),
        () -> x.fits(0, 3, 9, 0, 0));
    due("status() is of the call before", x.status(), 3);
    refused(x, NULL, () -> x.fits(0, 0, MAX, 12, 0));
  }

  @Promise(number = 22, says = "A row tells the DRAWER of a CARD")
  static void fitsOfWhatIsNoDrawer() {
    for (int item : new int[] {-1, 6, MIN, MAX, 256, 65536}) {
      DrawerCards x = told(WALK, item);
      for (int what = 0; what <= 3; what++) due("item " + item + ", what " + what, x.fits(0, 3, 0, 1, what), 0);
    }
  }

  @Promise(number = 22, says = "SORTS: KINDS (bits 1 to 5) of it by which it is so")
  static void fitsAllSortsOrNone() {
    // Without a dear it stays, whatever it is.
    DrawerCards x = told("c3,2;f1,7;", 1, 1, 1, 1, 1, 1, 1, 1, 1, 1, 1, 1);
    due("all", x.fits(0, 3, 0, 12, 0), 62);
    due("none", told("c3,2;f1,7;", 0).fits(0, 3, 0, 1, 0), 0);
    due("wild alone", told(WALK, 5).fits(0, 3, 0, 1, 0), 1 << 3);
    due("old alone", told(WALK, 1, 1).fits(0, 3, 0, 2, 0), 1 << 2);
    due("rod or blank", told(WALK, 0).fits(0, 3, 0, 1, 0), 1 << 4 | 1 << 5);
  }

  @Promise(number = 22, says = "LIKINGS (0 to 7, but its own number, bits) of it")
  static void fitsAllLikingsButItsOwn() {
    DrawerCards x = told("c2,8;r0,1;r0,0;r0,1;r0,2;r0,3;r0,4;r0,5;r0,6;", 0);
    for (int c = 0; c < 8; c++) due("card " + c, x.fits(c, 3, 0, 1, 1), 255 - (1 << c));
    due("7 alone", told("c2,8;f0,1;r0,0;r0,1;r0,2;r0,3;r0,4;r0,5;r1,6;", 1).fits(0, 3, 0, 1, 1), 128);
    due("0 alone", told("c2,8;r1,1;r0,0;r0,1;r0,2;r0,3;r0,4;r0,5;f0,6;", 1).fits(7, 3, 0, 1, 1), 1);
    due("those that are no cards", told("c2,2;f0,1;r1,0;", 0).fits(0, 3, 0, 1, 1), 252);
  }

  @Promise(number = 22, says = "HOLDINGS (1 to 8, bits)")
  static void fitsAllHoldings() {
    due("all", told("c2,3;r0,1;r0,0;r0,0;", 0).fits(0, 3, 0, 1, 2), 510);
    due("none", told("c2,3;r0,1;r0,0;r0,0;", 1).fits(0, 3, 0, 1, 2), 0);
    String sevenAndOne = "c2,7;r1,1;r1,0;r1,0;r1,0;r1,0;r1,0;r1,0;f0,0;";
    due("8 alone", told(sevenAndOne, 1).fits(7, 3, 0, 1, 2), 256);
    due("all but 8", told(sevenAndOne, 0).fits(7, 3, 0, 1, 2), 254);
    due("two or more", told("c2,1;f0,1;r1,0;", 1).fits(0, 3, 0, 1, 2), 508);
    due("1 alone", told("c2,1;f0,1;r1,0;", 0).fits(0, 3, 0, 1, 2), 2);
  }

  @Promise(number = 22, says = "STARTS: DRAWERS (bits) of it, were it put there now")
  static void fitsAllStarts() {
    for (int d = 0; d < 6; d++) due("drawer " + d, told("c6,1;r0,1;r3,0;", d).fits(0, 3, 0, 1, 3), 1 << d);
    due("all of six", told("c6,8;w0,1;r3,0;", 3).fits(0, 3, 0, 1, 3), 63);
    due("both of two", told("c2,8;w0,1;r1,0;", 1).fits(0, 3, 0, 1, 3), 3);
    due("none", told("c2,8;w0,1;r1,0;", 0).fits(0, 3, 0, 1, 3), 0);
  }

  @Promise(number = 22, says = "whatever that HOLDS; its own: as it is")
  static void fitsStartsInFullDrawers() {
    due("into a full one", told("c2,1;r0,1;r1,0;", 1).fits(0, 3, 0, 1, 3), 2);
    due("its own, which is full", told("c2,1;r0,1;r1,0;", 0).fits(0, 3, 0, 1, 3), 1);
    // In drawer 1 there would be two, one more than it holds: card 1 cannot come in, but card 0 can leave.
    DrawerCards x = told("c3,1;f0,2;f1,0;r2,0;", 1);
    due("it stays there beside the other", x.fits(0, 3, 0, 1, 3), 2);
    stand("fits", x, "0|1|2");
  }

  @Promise(number = 22, says = "What is refused, or found, changes nothing but status()")
  static void fitsChangesNothing() {
    DrawerCards x = told(ALL_KINDS, 1, 1, 2, 2);
    changesNothing(x, () -> x.fits(0, 3, 0, 4, 0), () -> x.fits(0, 3, 0, 4, 1), () -> x.fits(0, 3, 0, 4, 2),
        () -> x.fits(0, 3, 0, 4, 3), () -> x.fits(0, 3, 1, 4, 3), () -> x.fits(0, 3, 1, 13, 3));
  }

  // ---- asleep

  private static void fraction(String of, DrawerCards x, int[] call, int above, int below) {
    due(of + ": above", x.asleep(call[0], call[1], call[2], 0), above);
    due(of + ": below", x.asleep(call[0], call[1], call[2], 1), below);
  }

  @Promise(number = 23, says = "ASLEEP (c 0 to 10): above (what = 0), below (1). BAD.")
  static void asleepOfNoSuchThing() {
    DrawerCards x = read(WALK);
    refused(x, BAD, () -> x.asleep(-1, 0, 5, 0), () -> x.asleep(2, 0, 5, 0), () -> x.asleep(0, -1, 5, 0),
        () -> x.asleep(0, 6, 5, 0), () -> x.asleep(0, 0, 5, -1), () -> x.asleep(0, 0, 5, 2),
        () -> x.asleep(MIN, 0, 5, 0), () -> x.asleep(0, MAX, 5, 0), () -> x.asleep(0, 0, 5, MAX));
  }

  @Promise(number = 23, says = "ASLEEP (c 0 to 10)")
  static void asleepTooLittleOrTooMuch() {
    DrawerCards x = read(WALK);
    refused(x, BAD, () -> x.asleep(0, 0, -1, 0), () -> x.asleep(0, 0, 11, 0), () -> x.asleep(0, 0, MIN, 0),
        () -> x.asleep(0, 0, MAX, 1));
    fraction("none sleeps", x, new int[] {0, 1, 0}, 1, 1);
    fraction("none sleeps, where it was", x, new int[] {0, 0, 0}, 0, 1);
    fraction("all sleep", x, new int[] {0, 1, 10}, 0, 1);
    fraction("all sleep, where it was", x, new int[] {0, 0, 10}, 1, 1);
    fraction("by 1", x, new int[] {0, 1, 1}, 9, 10);
    fraction("by 9", x, new int[] {0, 1, 9}, 1, 10);
  }

  @Promise(number = 23, says = "fractions, told as two numbers in lowest terms (0 is 0 by 1)")
  static void asleepInLowestTerms() {
    DrawerCards x = read(WALK);
    fraction("none at all", x, new int[] {1, 0, 3}, 0, 1);
    fraction("whole", x, new int[] {1, 5, 3}, 1, 1);
    int[][] stays = {{1, 10}, {1, 5}, {3, 10}, {2, 5}, {1, 2}, {3, 5}, {7, 10}, {4, 5}, {9, 10}};
    for (int c = 1; c <= 9; c++) fraction("by " + c, x, new int[] {0, 0, c}, stays[c - 1][0], stays[c - 1][1]);
  }

  @Promise(number = 23, says = "each CARD does not have its TURN by c of 10, each by itself")
  static void asleepAllEight() {
    // Each goes over only if it wakes and the one that it likes went over ahead of it.
    DrawerCards x = read("c2,8;f0,7;f0,0;f0,1;f0,2;f0,3;f0,4;f0,5;r1,0;");
    int above = 1;
    int below = 1;
    for (int c = 0; c < 7; c++) {
      above *= 3;
      below *= 10;
      fraction("card " + c + " by 7", x, new int[] {c, 1, 7}, above, below);
      fraction("card " + c + " by 5", x, new int[] {c, 1, 5}, 1, 2 << c);
    }
    // Card 7 goes to 6 if it wakes and that did not come: 0.9 less 0.9 to the eighth.
    DrawerCards y = read("c2,8;f0,7;f0,0;f0,1;f0,2;f0,3;f0,4;f0,5;w1,6;");
    fraction("eight cards", y, new int[] {7, 0, 1}, 46953279, 100000000);
    fraction("the rest", y, new int[] {7, 1, 1}, 53046721, 100000000);
    changesNothing(y, () -> y.asleep(7, 0, 1, 0), () -> y.asleep(7, 0, 1, 1));
  }

  @Promise(number = 23, says = "in the next NIGHT")
  static void asleepInAnOddNight() {
    DrawerCards x = read("c3,3;o0,1;r2,0;");
    fraction("NIGHT 0", x, new int[] {0, 1, 4}, 3, 5);
    x.nights(1);
    fraction("NIGHT 1", x, new int[] {0, 1, 4}, 1, 1);
    fraction("NIGHT 1, the next drawer", x, new int[] {0, 2, 4}, 0, 1);
    DrawerCards y = inTheLastNight("c2,2;f0,1;r1,7;");
    y.put(0, 0);
    fraction("NIGHT 9999", y, new int[] {0, 1, 4}, 3, 5);
  }

  // ---- drawn

  @Promise(number = 24, says = "YEARS by a SEED (1 to 999999): DRAWERS (what = 0), how many (1). BAD")
  static void drawnBySuchASeed() {
    DrawerCards x = read(WALK);
    refused(x, BAD, () -> x.drawn(0, 0, 0), () -> x.drawn(0, 1000000, 0), () -> x.drawn(0, -1, 0), () -> x.drawn(0, MIN, 0),
        () -> x.drawn(0, MAX, 0), () -> x.drawn(0, 1, -1), () -> x.drawn(0, 1, 2), () -> x.drawn(0, 1, MAX));
    due("seed 1", x.drawn(0, 1, 0), 5);
    due("seed 999999", x.drawn(0, 999999, 0), 5);
  }

  @Promise(number = 24, says = "YEARS of n NIGHTS (0 to 60)")
  static void drawnTooFewOrTooMany() {
    DrawerCards x = read(ALL_KINDS);
    refused(x, BAD, () -> x.drawn(-1, 1, 0), () -> x.drawn(61, 1, 0), () -> x.drawn(MIN, 1, 0), () -> x.drawn(MAX, 1, 0));
    due("60 nights", x.drawn(60, 9, 0), 233322);
    due("mates of 60 nights", x.drawn(60, 9, 1), 141);
  }

  @Promise(number = 24, says = "STATE: no CATALOGUE (ahead of BAD)")
  static void drawnWithoutCatalogue() {
    DrawerCards x = new DrawerCards();
    refused(x, STATE, () -> x.drawn(0, 1, 0), () -> x.drawn(-1, 1, 0), () -> x.drawn(61, 0, 2), () -> x.drawn(0, 1000000, 0));
  }

  @Promise(number = 24, says = "how many stand right behind whom they LIKE behind a NIGHT")
  static void drawnForNoNight() {
    DrawerCards x = read("c2,2;r1,7;r1,0;");
    due("drawers as now", x.drawn(0, 5, 0), 11);
    due("mates now do not count", x.drawn(0, 5, 1), 0);
    due("there is one now", x.mates(), 2);
  }

  /** Cards on rods alone: only what is put moves them, so this is all there is to it. */
  private static int[] drawnOnRods(int drawers, int holds, int[] in, int[] likes, int n, int seed) {
    List<List<Integer>> all = new ArrayList<>();
    for (int d = 0; d < drawers; d++) all.add(new ArrayList<>());
    for (int c = 0; c < in.length; c++) all.get(in[c]).add(c);
    long x = seed;
    int mates = 0;
    for (int k = 0; k < n; k++) {
      x = x * 16807 % 2147483647L;
      Integer card = (int) (x % in.length);
      int to = (int) (x % drawers);
      boolean own = all.get(to).contains(card);
      if (own || all.get(to).size() < holds) {
        for (List<Integer> d : all) d.remove(card);
        all.get(to).add(card);
      }
      for (List<Integer> d : all) for (int p = 1; p < d.size(); p++) if (likes[d.get(p)] == d.get(p - 1)) mates++;
    }
    int figures = 0;
    for (int c = 0; c < in.length; c++) for (int d = 0; d < drawers; d++) if (all.get(d).contains(c)) figures = figures * 10 + d;
    return new int[] {figures, mates};
  }

  @Promise(number = 24, says = "ahead of each X becomes the rest of (X times 16807) by 2147483647")
  static void drawnWhereProductsOutgrowAnInt() {
    int[] in = {0, 1, 2, 3, 4};
    int[] likes = {1, 0, 1, 2, 3};
    DrawerCards x = read("c5,2;r0,1;r1,0;r2,1;r3,2;r4,3;");
    for (int seed : new int[] {1, 2, 127773, 127774, 255546, 500000, 999998, 999999}) {
      for (int n : new int[] {1, 2, 3, 59, 60}) {
        int[] want = drawnOnRods(5, 2, in, likes, n, seed);
        due("drawers by " + n + ", " + seed, x.drawn(n, seed, 0), want[0]);
        due("mates by " + n + ", " + seed, x.drawn(n, seed, 1), want[1]);
      }
    }
  }

  @Promise(number = 24, says = "the CARD that is the rest of X by how many there are")
  static void drawnOfOneCardAndOfEight() {
    DrawerCards x = read("c6,1;r0,1;");
    DrawerCards y = read("c6,8;r0,1;r1,0;r2,1;r3,2;r4,3;r5,4;r0,5;r1,6;");
    for (int n = 1; n <= 6; n++) {
      due("one card, " + n, x.drawn(n, 5, 0), drawnOnRods(6, 1, new int[] {0}, new int[] {1}, n, 5)[0]);
      int[] want = drawnOnRods(6, 8, new int[] {0, 1, 2, 3, 4, 5, 0, 1}, new int[] {1, 0, 1, 2, 3, 4, 5, 6}, 10 * n, 5);
      due("eight cards, " + 10 * n, y.drawn(10 * n, 5, 0), want[0]);
      due("mates of eight, " + 10 * n, y.drawn(10 * n, 5, 1), want[1]);
    }
  }

  @Promise(number = 24, says = "if that HOLDS one more, or is its own")
  static void drawnIntoFullDrawers() {
    // Both are full for ever: only its own is left, where it stands behind all.
    DrawerCards x = read("c2,1;r0,1;r1,0;");
    due("all stay", x.drawn(60, 77, 0), 1);
    // X is 16807: card 1 of three, drawer 1, its own though full: it comes behind card 2.
    DrawerCards y = read("c2,2;r0,7;r1,2;r1,7;");
    due("it comes behind card 2", y.drawn(1, 1, 1), 1);
    due("drawers", y.drawn(1, 1, 0), 11);
  }

  @Promise(number = 24, says = "FORETOLD (nothing changes)")
  static void drawnBeyondTheLastNight() {
    DrawerCards x = inTheLastNight("c2,2;f0,1;r1,7;");
    tell(x.drawn(60, 3, 0) >= 0, "drawn at NIGHT 9999");
    due("NIGHT yet", x.count(3), 9999);
    DrawerCards y = read(ALL_KINDS);
    changesNothing(y, () -> y.drawn(60, 3, 0), () -> y.drawn(60, 3, 1));
  }
}
