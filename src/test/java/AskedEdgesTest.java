import java.io.IOException;
import java.util.function.IntSupplier;

/** Boundaries of promises 25 to 32: images, kinds, asks, the trace, counts, status. */
public final class AskedEdgesTest extends Edges {
  private static final String ALL_KINDS = "c4,3;f0,2;o0,3;w3,1;r2,0;b2,7;f3,0;";

  public static void main(String[] args) throws IOException, IllegalAccessException {
    run(AskedEdgesTest.class, 25, 32);
  }

  // ---- images

  @Promise(number = 25, says = "An IMAGE (0, 1) is kept of the CATALOGUE: 1. BAD")
  static void imageTooSmallOrTooLarge() {
    DrawerCards x = read(ALL_KINDS);
    refused(x, BAD, () -> x.image(-1), () -> x.image(2), () -> x.image(MIN), () -> x.image(MAX));
    due("image(0)", x.image(0), 1);
    due("image(1)", x.image(1), 1);
  }

  @Promise(number = 25, says = "STATE: no CATALOGUE.")
  static void imageOfNoCatalogue() {
    DrawerCards x = new DrawerCards();
    refused(x, STATE, () -> x.image(0), () -> x.image(1));
    refused(x, STATE, () -> x.restore(0), () -> x.restore(1));
  }

  @Promise(number = 25, says = "the first of these that fits")
  static void imageBadAheadOfState() {
    DrawerCards x = new DrawerCards();
    refused(x, BAD, () -> x.image(-1), () -> x.image(2), () -> x.image(MIN), () -> x.image(MAX));
  }

  @Promise(number = 25, says = "An IMAGE (0, 1) is kept of the CATALOGUE")
  static void imageIsNoAct() {
    DrawerCards x = read(ALL_KINDS);
    x.nights(2);
    String before = picture(x);
    x.image(0);
    tell(before.equals(picture(x)), "an image changed " + before + " into " + picture(x));
    due("undo()", x.undo(), 1);
  }

  @Promise(number = 25, says = "An IMAGE (0, 1) is kept of the CATALOGUE")
  static void imagesAreApartAndReplaced() {
    DrawerCards x = read("c3,2;r0,1;r2,0;");
    x.image(0);
    x.put(0, 1);
    x.image(1);
    x.put(0, 2);
    x.restore(0);
    stand("restore(0)", x, "0||1");
    x.restore(1);
    stand("restore(1)", x, "|0|1");
    x.image(0);
    x.put(1, 0);
    x.restore(0);
    stand("restore(0), which was replaced", x, "|0|1");
  }

  @Promise(number = 26, says = "BAD; STATE: none was kept.")
  static void restoreTooSmallOrTooLarge() {
    DrawerCards x = read(ALL_KINDS);
    x.image(0);
    x.image(1);
    x.nights(1);
    refused(x, BAD, () -> x.restore(-1), () -> x.restore(2), () -> x.restore(MIN), () -> x.restore(MAX));
    due("restore(0)", x.restore(0), 1);
    due("restore(1)", x.restore(1), 1);
  }

  @Promise(number = 26, says = "STATE: none was kept.")
  static void restoreOfNone() {
    DrawerCards x = read(ALL_KINDS);
    x.nights(1);
    refused(x, STATE, () -> x.restore(0), () -> x.restore(1));
    x.image(1);
    refused(x, STATE, () -> x.restore(0));
    DrawerCards y = read(ALL_KINDS);
    y.image(0);
    refused(y, STATE, () -> y.restore(1));
  }

  @Promise(number = 26, says = "the first of these that fits")
  static void restoreBadAheadOfState() {
    DrawerCards x = new DrawerCards();
    refused(x, BAD, () -> x.restore(-1), () -> x.restore(2), () -> x.restore(MIN), () -> x.restore(MAX));
  }

  @Promise(number = 26, says = "The CATALOGUE is as an IMAGE kept it (no ACT can be undone then)")
  static void restoreOfTheWholeCatalogue() {
    DrawerCards x = read(ALL_KINDS);
    x.nights(3);
    x.turn(1);
    x.like(4, 2);
    String then = picture(x).replace("counts 0 4 6 3 3 5 ", "counts 0 4 6 3 3 0 ");
    x.image(0);
    feed(x, "c6,8;w5,7;");
    x.catalogue();
    x.nights(2);
    due("restore(0)", x.restore(0), 1);
    tell(then.equals(picture(x)), "restored " + picture(x) + "\n  due is " + then);
    refused(x, STATE, () -> x.undo());
    x.nights(1);
    due("an act from now on", x.undo(), 0);
  }

  @Promise(number = 26, says = "The CATALOGUE is as an IMAGE kept it (no ACT can be undone then)")
  static void restoreAgainAndAgain() {
    DrawerCards x = read("c3,2;f0,1;r2,7;");
    x.image(0);
    for (int k = 0; k < 3; k++) {
      x.nights(2);
      x.like(0, 7);
      x.turn(2);
      due("restore(0)", x.restore(0), 1);
      stand("restore(0)", x, "0||1");
      due("NIGHT", x.count(3), 0);
      due("likes", x.card(0, 2), 1);
    }
  }

  @Promise(number = 26, says = "The CATALOGUE is as an IMAGE kept it")
  static void restoreLeavesAllElse() {
    DrawerCards x = read("c6,1;r0,1;");
    x.image(0);
    rowOf(x, 2, 4, 5);
    feed(x, "c7");
    x.catalogue();
    feed(x, "c2,");
    x.ask(0, 1);
    x.restore(0);
    due("tape", x.count(6), 3);
    due("fault", x.fault(), 2);
    due("trace", x.trace(0), 23);
    tell(items(x, 2, 2).equals("45"), "the row's items");
  }

  @Promise(number = 26, says = "The CATALOGUE is as an IMAGE kept it")
  static void restoreOfTheFirstNightFromTheLast() {
    DrawerCards x = read("c2,1;f0,1;");
    x.image(0);
    pass(x, 9999);
    x.image(1);
    x.restore(0);
    due("NIGHT", x.count(3), 0);
    due("nights(24)", x.nights(24), 0);
    x.restore(1);
    due("NIGHT", x.count(3), 9999);
    due("nights(1)", x.nights(1), FULL);
    due("undo()", x.undo(), STATE);
  }

  // ---- kinds

  @Promise(number = 27, says = "The KIND of a CARD, as told (1 to 5). BAD.")
  static void kindOfNoCard() {
    DrawerCards x = read(ALL_KINDS);
    refused(x, BAD, () -> x.kind(-1), () -> x.kind(6), () -> x.kind(8), () -> x.kind(MIN), () -> x.kind(MAX));
    int[] want = {1, 2, 3, 4, 5, 1};
    for (int c = 0; c < 6; c++) due("kind(" + c + ")", x.kind(c), want[c]);
  }

  @Promise(number = 27, says = "The KIND of a CARD, as told (1 to 5).")
  static void kindStaysAsTold() {
    DrawerCards x = read(ALL_KINDS);
    rowOf(x, 0, 1);
    x.rods(0, 0, 20, 1);
    x.fits(0, 0, 0, 1, 0);
    x.nights(3);
    due("free yet", x.kind(0), 1);
    due("the eighth", read("c2,8;r0,1;r0,0;r0,0;r0,0;r0,0;r0,0;r0,0;b0,0;").kind(7), 5);
  }

  @Promise(number = 28, says = "A CARD is taken as one of a KIND (0 .. 5): its number. BAD")
  static void asOfNoCardOrNoKind() {
    DrawerCards x = read(ALL_KINDS);
    refused(x, BAD, () -> x.as(-1, 0), () -> x.as(6, 0), () -> x.as(0, -1), () -> x.as(0, 6), () -> x.as(MIN, 0),
        () -> x.as(MAX, 0), () -> x.as(0, MIN), () -> x.as(0, MAX));
    due("the last card as any", x.as(5, 0), 5);
    due("the blank as the last kind", x.as(4, 5), 4);
  }

  @Promise(number = 28, says = "the first of these that fits")
  static void asBadAheadOfKind() {
    DrawerCards x = read(ALL_KINDS);
    x.row(0, 0, -1);
    refused(x, BAD, () -> x.as(6, 4), () -> x.as(0, 6), () -> x.as(3, -1));
    due("status() is of the call before", x.status(), 4);
  }

  @Promise(number = 28, says = "1 FREE, a CARD; 2 OLD, a FREE; 3 WILD, a FREE; 4 ROD, a CARD; 5 BLANK, a ROD")
  static void asEveryKindOfEveryCard() {
    DrawerCards x = read(ALL_KINDS);
    String[] are = {"01", "012", "013", "04", "045", "01"};
    for (int c = 0; c < 6; c++) {
      for (int k = 0; k <= 5; k++) {
        boolean is = are[c].indexOf('0' + k) >= 0;
        due("as(" + c + ", " + k + ")", x.as(c, k), is ? c : KIND);
        due("status()", x.status(), is ? 0 : 3);
      }
    }
  }

  @Promise(number = 28, says = "3 KIND (a CARD that is not that)")
  static void asChangesNothing() {
    DrawerCards x = read(ALL_KINDS);
    refused(x, KIND, () -> x.as(0, 2), () -> x.as(1, 3), () -> x.as(2, 2), () -> x.as(3, 5), () -> x.as(4, 1),
        () -> x.as(5, 4));
    due("kind of 0", x.kind(0), 1);
    String before = picture(x);
    x.as(1, 1);
    x.as(4, 4);
    tell(before.equals(picture(x)), "as() changed " + before);
  }

  // ---- asks

  private static void asked(DrawerCards x, int card, int what, int answer, int... bodies) {
    String call = "ask(" + card + ", " + what + ")";
    due(call, x.ask(card, what), answer);
    for (int i = 0; i < bodies.length; i++) due(call + " trace " + i, x.trace(i), bodies[i]);
    due(call + " trace's end", x.trace(bodies.length), NONE);
  }

  @Promise(number = 29, says = "An ASK (0, 1) of a CARD. BAD.")
  static void askOfNoCardOrNoWhat() {
    DrawerCards x = read(ALL_KINDS);
    x.ask(1, 0);
    refused(x, BAD, () -> x.ask(-1, 0), () -> x.ask(6, 0), () -> x.ask(0, -1), () -> x.ask(0, 2), () -> x.ask(MIN, 0),
        () -> x.ask(MAX, 0), () -> x.ask(0, MIN), () -> x.ask(0, MAX));
    due("the trace of the one before", x.trace(0), 12);
  }

  @Promise(number = 29, says = "THE TRACE is empty ahead of it.")
  static void askFromTheLongestToTheShortest() {
    DrawerCards x = read(ALL_KINDS);
    asked(x, 1, 0, -7, 12, 11, 10, 24, 21, 20);
    asked(x, 0, 1, 0, 21, 20);
    asked(x, 3, 0, -100, 13, 10);
    asked(x, 1, 0, -7, 12, 11, 10, 24, 21, 20);
  }

  @Promise(number = 29, says = "else that of the nearest KIND that it is, too")
  static void askWhereNoBodyIsToldForTheKind() {
    DrawerCards x = read(ALL_KINDS);
    // No SIZE is told for wild ones, no MARK for blanks.
    asked(x, 2, 0, 1 + 2 + 0 - 1000, 11, 10, 22, 21, 20);
    asked(x, 4, 1, 4 + 2 * 93, 23, 20, 14, 13, 10);
  }

  @Promise(number = 29, says = "10 lent to all CARDS: whom it LIKES.")
  static void askAtTheEndsOfNumbersAndPlaces() {
    DrawerCards x = read("c2,8;f0,7;f0,0;f0,1;f0,2;f0,3;f0,4;f0,5;o0,0;");
    asked(x, 7, 1, 2 * (7 + 7), 24, 21, 20);
    asked(x, 7, 0, -(0 + 28), 12, 11, 10, 24, 21, 20);
    asked(x, 0, 0, 7, 11, 10, 21, 20);
    // A liking that is no card's is told all the same.
    asked(read("c2,2;r0,7;"), 0, 1, 0 - (7 - 100), 23, 20, 13, 10);
  }

  @Promise(number = 30, says = "Number i of THE TRACE; NONE.")
  static void traceBeforeAnyAsk() {
    DrawerCards x = read(ALL_KINDS);
    for (int i : new int[] {-1, 0, 1, 15, 16, MIN, MAX}) due("trace(" + i + ")", x.trace(i), NONE);
    x.ask(9, 0);
    due("a refused ask leaves none", x.trace(0), NONE);
  }

  @Promise(number = 30, says = "Number i of THE TRACE; NONE.")
  static void traceBeyondItsEnds() {
    DrawerCards x = read(ALL_KINDS);
    x.ask(1, 0);
    due("the first", x.trace(0), 12);
    due("the last", x.trace(5), 20);
    for (int i : new int[] {-1, 6, 7, 15, 16, 17, MIN, MAX}) due("trace(" + i + ")", x.trace(i), NONE);
  }

  @Promise(number = 30, says = "each of which leaves its number in THE TRACE as it begins (the first 16)")
  static void traceOfManyAsksIsOfTheLatest() {
    DrawerCards x = read(ALL_KINDS);
    for (int k = 0; k < 20; k++) x.ask(1, 0);
    int[] want = {12, 11, 10, 24, 21, 20, NONE};
    for (int i = 0; i < want.length; i++) due("trace(" + i + ")", x.trace(i), want[i]);
    feed(x, "c2,1;f0,1;");
    x.catalogue();
    x.nights(1);
    x.undo();
    due("it stays until the next ask", x.trace(5), 20);
  }

  // ---- counts

  @Promise(number = 31, says = "as figures of one number. BAD.")
  static void countTooSmallOrTooLarge() {
    DrawerCards x = read(ALL_KINDS);
    refused(x, BAD, () -> x.count(-1), () -> x.count(8), () -> x.count(MIN), () -> x.count(MAX));
    DrawerCards y = new DrawerCards();
    refused(y, BAD, () -> y.count(-1), () -> y.count(8));
  }

  @Promise(number = 31, says = "How many: 0 ROWS, 1 DRAWERS, 2 CARDS, 3 NIGHT, 4 what a DRAWER HOLDS, 5 ACTS that can be undone")
  static void countNoneAndMost() {
    DrawerCards x = new DrawerCards();
    for (int what = 0; what <= 7; what++) due("new: count(" + what + ")", x.count(what), 0);
    feed(x, "c6,8;r5,1;r5,0;r5,0;r5,0;r5,0;r5,0;r5,0;r5,0;");
    x.catalogue();
    for (int row = 0; row < 8; row++) x.row(row, 0, 0);
    for (int n = 0; n < 60; n++) x.feed(n);
    x.nights(24);
    int[] most = {8, 6, 8, 24, 8, 24, 60, 55555555};
    for (int what = 0; what <= 7; what++) due("most: count(" + what + ")", x.count(what), most[what]);
    x.nights(1);
    due("ACTS yet", x.count(5), 24);
    x.row(3, 1, 7);
    due("ROWS yet", x.count(0), 8);
    x.drop(3);
    due("one less", x.count(0), 7);
  }

  @Promise(number = 31, says = "7 DRAWERS of CARDS, CARD 0 first, as figures of one number")
  static void countFiguresWithNone() {
    due("all in drawer 0", read("c2,8;r0,1;r0,0;r0,0;").count(7), 0);
    due("the last alone", read("c2,8;r0,1;r0,0;r1,0;").count(7), 1);
    due("the first alone", read("c6,8;r5,1;r0,0;r0,0;r0,0;r0,0;r0,0;r0,0;r0,0;").count(7), 50000000);
    due("one card", read("c6,1;r5,1;").count(7), 5);
  }

  // ---- status

  /** status() 4 at first, then the call: it is due to be 4 yet, or another. */
  private static void statusBehind(String call, DrawerCards x, IntSupplier made, int want) {
    x.row(7, 0, -1);
    due("ahead of " + call, x.status(), 4);
    made.getAsInt();
    due("behind " + call, x.status(), want);
  }

  @Promise(number = 32, says = "0: it had none, or there was none")
  static void statusOfNone() {
    DrawerCards x = new DrawerCards();
    due("new", x.status(), 0);
    x.row(8, 0, 0);
    x.feed(-1);
    x.nights(1);
    x.restore(0);
    due("refusals alone", x.status(), 0);
    x.drop(0);
    x.row(0, 0, 0);
    due("a call that had none", x.status(), 0);
  }

  @Promise(number = 32, says = "Of the latest call with a ROW, or as(), that was not BAD, STATE, FULL: the number of its FINDING")
  static void statusOfEachFinding() {
    DrawerCards x = read(ALL_KINDS);
    x.row(0, 0, 2);
    x.row(1, 1, 2);
    statusBehind("set: NULL", x, () -> x.set(2, 0, 0), 1);
    statusBehind("set: PLACE", x, () -> x.set(0, 2, 0), 2);
    statusBehind("copy: NULL", x, () -> x.copy(0, 0, 2, 0, 0), 1);
    statusBehind("copy: STORE", x, () -> x.copy(0, 0, 1, 0, 0), 5);
    statusBehind("copy: PLACE", x, () -> x.copy(0, 0, 0, 0, 3), 2);
    statusBehind("drop: NULL", x, () -> x.drop(2), 1);
    statusBehind("fits: NULL", x, () -> x.fits(0, 2, 0, 1, 0), 1);
    statusBehind("fits: PLACE", x, () -> x.fits(0, 0, 2, 1, 0), 2);
    statusBehind("as: KIND", x, () -> x.as(0, 5), 3);
    due("row: SIZE", x.row(0, 0, -1), SIZE);
    due("status()", x.status(), 4);
  }

  @Promise(number = 32, says = "0: it had none, or there was none")
  static void statusOfEachCallWithoutFinding() {
    DrawerCards x = read(ALL_KINDS);
    statusBehind("row", x, () -> x.row(0, 0, 0), 0);
    x.row(1, 0, 3);
    statusBehind("set", x, () -> x.set(1, 0, 0), 0);
    statusBehind("copy", x, () -> x.copy(1, 0, 1, 0, 0), 0);
    statusBehind("fits", x, () -> x.fits(0, 1, 0, 1, 0), 0);
    statusBehind("drop", x, () -> x.drop(1), 0);
    statusBehind("as", x, () -> x.as(0, 0), 0);
  }

  @Promise(number = 32, says = "that was not BAD, STATE, FULL")
  static void statusBehindRefusals() {
    DrawerCards x = read(ALL_KINDS);
    statusBehind("row: BAD", x, () -> x.row(0, 3, 0), 4);
    statusBehind("set: BAD", x, () -> x.set(8, 0, 0), 4);
    statusBehind("copy: BAD", x, () -> x.copy(8, 0, 0, 0, 0), 4);
    statusBehind("drop: BAD", x, () -> x.drop(8), 4);
    statusBehind("fits: BAD", x, () -> x.fits(0, 0, 0, 13, 0), 4);
    statusBehind("as: BAD", x, () -> x.as(0, 6), 4);
  }

  @Promise(number = 32, says = "Of the latest call with a ROW, or as()")
  static void statusBehindOtherCalls() {
    DrawerCards x = read(ALL_KINDS);
    IntSupplier[] others = {() -> x.feed(1), () -> x.catalogue(), () -> x.fault(), () -> x.nights(1), () -> x.put(0, 0),
      () -> x.turn(0), () -> x.like(0, 1), () -> x.undo(), () -> x.card(0, 0), () -> x.drawer(0, 0),
      () -> x.ahead(0, 0, 0), () -> x.found(0, 0), () -> x.still(0), () -> x.mates(), () -> x.rods(0, 0, 1, 0),
      () -> x.tour(1, 0), () -> x.asleep(0, 0, 1, 0), () -> x.drawn(1, 1, 0), () -> x.image(0), () -> x.restore(0),
      () -> x.kind(0), () -> x.ask(0, 0), () -> x.trace(0), () -> x.count(0), () -> x.status()};
    for (int k = 0; k < others.length; k++) statusBehind("other call " + k, x, others[k], 4);
    IntSupplier[] refusals = {() -> x.feed(-1), () -> x.nights(0), () -> x.put(9, 0), () -> x.restore(1),
      () -> x.image(2), () -> x.kind(9), () -> x.ask(9, 0), () -> x.count(9)};
    for (int k = 0; k < refusals.length; k++) statusBehind("other refusal " + k, x, refusals[k], 4);
  }

  @Promise(number = 32, says = "What is refused, or found, changes nothing but status()")
  static void statusDoesNotChangeItself() {
    DrawerCards x = new DrawerCards();
    x.drop(0);
    due("once", x.status(), 1);
    due("twice", x.status(), 1);
  }
}
