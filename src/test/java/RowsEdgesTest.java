import java.io.IOException;

/** Boundaries of promises 1 to 5: a new object, rows. */
public final class RowsEdgesTest extends Edges {
  public static void main(String[] args) throws IOException, IllegalAccessException {
    run(RowsEdgesTest.class, 1, 5);
  }

  @Promise(number = 1, says = "No CATALOGUE.")
  static void nothingIsThere() {
    DrawerCards x = new DrawerCards();
    for (int what = 0; what <= 7; what++) due("count(" + what + ")", x.count(what), 0);
    due("status()", x.status(), 0);
    due("fault()", x.fault(), 0);
    due("trace(0)", x.trace(0), NONE);
  }

  @Promise(number = 1, says = "No CATALOGUE.")
  static void callsOfNoCardAndNoDrawer() {
    DrawerCards x = new DrawerCards();
    rowOf(x, 0, 0, 0);
    refused(x, BAD, () -> x.put(0, 0), () -> x.turn(0), () -> x.like(0, 1), () -> x.card(0, 0), () -> x.drawer(0, 0),
        () -> x.ahead(0, 0, 0), () -> x.found(0, 0), () -> x.rods(0, 0, 1, 0), () -> x.fits(0, 0, 0, 1, 0),
        () -> x.asleep(0, 0, 0, 0), () -> x.kind(0), () -> x.as(0, 0), () -> x.ask(0, 0));
  }

  @Promise(number = 1, says = "STATE: no CATALOGUE")
  static void callsOfTheWholeCatalogue() {
    DrawerCards x = new DrawerCards();
    refused(x, STATE, () -> x.nights(1), () -> x.undo(), () -> x.still(0), () -> x.still(1), () -> x.mates(),
        () -> x.tour(1, 0), () -> x.drawn(0, 1, 0), () -> x.image(0), () -> x.image(1), () -> x.restore(0),
        () -> x.restore(1));
  }

  @Promise(number = 1, says = "ROWS 0 .. 7 are missing (at first)")
  static void allRowsAreMissing() {
    DrawerCards x = new DrawerCards();
    for (int row = 0; row < 8; row++) {
      due("set(" + row + ", 0, 0)", x.set(row, 0, 0), NULL);
      due("drop(" + row + ")", x.drop(row), NULL);
    }
  }

  @Promise(number = 1, says = "No CATALOGUE.")
  static void objectsAreApart() {
    DrawerCards x = read("c3,2;f0,1;r2,0;");
    x.row(3, 2, 5);
    x.nights(1);
    x.image(0);
    x.ask(0, 0);
    x.feed(1);
    DrawerCards y = new DrawerCards();
    nothingIsThere();
    due("drop(3) of another", y.drop(3), NULL);
    due("restore(0) of another", y.restore(0), STATE);
    feed(y, "c2,1;b0,1;");
    y.catalogue();
    due("cards of the first yet", x.count(2), 2);
    due("night of the first yet", x.count(3), 1);
    due("tape of the first yet", x.count(6), 1);
  }

  @Promise(number = 1, says = "An object is used for at most 512 calls after it has been made")
  static void theLastCallOfAnObject() {
    // 11 calls of reading, 500 acts, and one.
    DrawerCards x = read("c2,1;f0,1;");
    for (int k = 0; k < 500; k++) due("act " + k, x.like(0, 1 + (k + 1) % 7), 1 + k % 7);
    due("call 512", x.undo(), 23);
  }

  @Promise(number = 2, says = "BAD: ROW")
  static void rowTooSmallOrTooLarge() {
    DrawerCards x = new DrawerCards();
    due("row(0, 2, 1)", x.row(0, 2, 1), 1);
    due("row(7, 2, 1)", x.row(7, 2, 1), 1);
    refused(x, BAD, () -> x.row(-1, 2, 1), () -> x.row(8, 2, 1), () -> x.row(MIN, 2, 1), () -> x.row(MAX, 2, 1));
  }

  @Promise(number = 2, says = "have a LANE (0 bytes, 1 shorts, 2 ints)")
  static void laneTooSmallOrTooLarge() {
    DrawerCards x = new DrawerCards();
    int[] widest = {255, 65535, MAX};
    int[] isThen = {-1, -1, MAX};
    for (int lane = 0; lane <= 2; lane++) {
      due("row of lane " + lane, x.row(lane, lane, 1), 1);
      due("set of lane " + lane, x.set(lane, 0, widest[lane]), isThen[lane]);
    }
    refused(x, BAD, () -> x.row(0, -1, 1), () -> x.row(0, 3, 1), () -> x.row(0, MIN, 1), () -> x.row(0, MAX, 1));
  }

  @Promise(number = 2, says = "n above 40")
  static void sizeTooLarge() {
    DrawerCards x = new DrawerCards();
    due("row(0, 0, 40)", x.row(0, 0, 40), 40);
    due("the last item", x.set(0, 39, 5), 5);
    refused(x, BAD, () -> x.row(0, 0, 41), () -> x.row(0, 0, MAX));
    due("40 items yet", x.drop(0), 40);
  }

  @Promise(number = 2, says = "0 to 40 ITEMS")
  static void sizeNone() {
    DrawerCards x = new DrawerCards();
    due("row(0, 0, 0)", x.row(0, 0, 0), 0);
    due("an empty row is there", x.count(0), 1);
    due("it has no place 0", x.set(0, 0, 0), PLACE);
    due("drop(0)", x.drop(0), 0);
  }

  @Promise(number = 2, says = "4 SIZE (fewer than none)")
  static void sizeTooSmall() {
    DrawerCards x = withReadableRows();
    rowOf(x, 0, 3, 4);
    refused(x, SIZE, () -> x.row(0, 2, -1), () -> x.row(0, 0, MIN), () -> x.row(5, 0, -1));
    due("status()", x.status(), 4);
    tell(items(x, 0, 2).equals("34"), "the row's items changed");
    due("row 5 is missing yet", x.drop(5), NULL);
  }

  @Promise(number = 2, says = "the first of these that fits")
  static void badAheadOfSize() {
    DrawerCards x = new DrawerCards();
    x.drop(0);
    refused(x, BAD, () -> x.row(8, 0, -1), () -> x.row(-1, 0, -1), () -> x.row(0, 3, -1), () -> x.row(0, -1, MIN));
    due("status() is of the call before", x.status(), 1);
  }

  @Promise(number = 2, says = "in place of what is there")
  static void anotherRowInPlace() {
    DrawerCards x = withReadableRows();
    rowOf(x, 4, 1, 2, 3);
    due("row(4, 0, 2)", x.row(4, 0, 2), 2);
    due("one row", x.count(0), 1);
    tell(items(x, 4, 2).equals("00"), "items are 0 again");
    due("shorter now", x.set(4, 2, 0), PLACE);
    due("of bytes now", x.set(4, 1, 128), -128);
    due("longer again", x.row(4, 2, 3), 3);
    tell(items(x, 4, 3).equals("000"), "items of the longer one are 0");
  }

  @Promise(number = 2, says = "0 to 40 ITEMS, 0 at first")
  static void fortyItemsAreZero() {
    DrawerCards x = withReadableRows();
    x.row(6, 1, 40);
    tell(items(x, 6, 40).equals("0".repeat(40)), "all items are 0");
  }

  @Promise(number = 2, says = "ROWS 0 .. 7")
  static void eightRowsAtOnce() {
    DrawerCards x = withReadableRows();
    for (int row = 0; row < 8; row++) due("row(" + row + ")", x.row(row, row % 3, row + 1), row + 1);
    due("count(0)", x.count(0), 8);
    for (int row = 0; row < 8; row++) x.set(row, row, row % 6);
    for (int row = 0; row < 8; row++) due("item of row " + row, itemAt(x, row, row), row % 6);
    for (int row = 0; row < 8; row++) due("drop(" + row + ")", x.drop(row), row + 1);
  }

  @Promise(number = 3, says = "BAD: ROW; NULL; PLACE.")
  static void setInNoRow() {
    DrawerCards x = new DrawerCards();
    x.row(0, 2, 1);
    x.row(7, 2, 1);
    due("set(0, 0, 9)", x.set(0, 0, 9), 9);
    due("set(7, 0, 9)", x.set(7, 0, 9), 9);
    refused(x, BAD, () -> x.set(-1, 0, 0), () -> x.set(8, 0, 0), () -> x.set(MIN, 0, 0), () -> x.set(MAX, 0, 0),
        () -> x.set(8, -1, 0));
  }

  @Promise(number = 3, says = "1 NULL (a ROW that is missing)")
  static void setInMissingRow() {
    DrawerCards x = new DrawerCards();
    x.row(2, 2, 3);
    x.drop(2);
    refused(x, NULL, () -> x.set(0, 0, 0), () -> x.set(7, 0, 0), () -> x.set(2, 0, 0), () -> x.set(2, -1, 0),
        () -> x.set(2, 3, 0));
    due("status()", x.status(), 1);
  }

  @Promise(number = 3, says = "2 PLACE (no such place of a ROW)")
  static void setBeyondTheEnds() {
    DrawerCards x = withReadableRows();
    rowOf(x, 1, 1, 2, 3);
    refused(x, PLACE, () -> x.set(1, -1, 5), () -> x.set(1, 3, 5), () -> x.set(1, MIN, 5), () -> x.set(1, MAX, 5));
    due("status()", x.status(), 2);
    tell(items(x, 1, 3).equals("123"), "items changed");
    due("the first place", x.set(1, 0, 5), 5);
    due("the last place", x.set(1, 2, 4), 4);
    tell(items(x, 1, 3).equals("524"), "items at both ends");
  }

  @Promise(number = 3, says = "2 PLACE (no such place of a ROW)")
  static void setAtTheEndOfTheLongestAndOfNone() {
    DrawerCards x = new DrawerCards();
    x.row(0, 2, 40);
    x.row(1, 2, 0);
    due("place 39", x.set(0, 39, 7), 7);
    refused(x, PLACE, () -> x.set(0, 40, 7), () -> x.set(1, 0, 7), () -> x.set(1, -1, 7));
  }

  private static void keeps(int lane, int v, int want) {
    DrawerCards x = new DrawerCards();
    x.row(0, lane, 1);
    due("set of lane " + lane + " to " + v, x.set(0, 0, v), want);
  }

  @Promise(number = 3, says = "its lowest bits, as many as the LANE has")
  static void bytesWrapAround() {
    int[][] pairs = {{0, 0}, {1, 1}, {-1, -1}, {127, 127}, {128, -128}, {-128, -128}, {-129, 127}, {255, -1}, {256, 0},
      {-256, 0}, {257, 1}, {65535, -1}, {65536, 0}, {MAX, -1}, {MIN, 0}};
    for (int[] p : pairs) keeps(0, p[0], p[1]);
  }

  @Promise(number = 3, says = "its lowest bits, as many as the LANE has")
  static void shortsWrapAround() {
    int[][] pairs = {{128, 128}, {255, 255}, {-129, -129}, {32767, 32767}, {32768, -32768}, {-32768, -32768},
      {-32769, 32767}, {65535, -1}, {65536, 0}, {65537, 1}, {-65536, 0}, {MAX, -1}, {MIN, 0}};
    for (int[] p : pairs) keeps(1, p[0], p[1]);
  }

  @Promise(number = 3, says = "its lowest bits, as many as the LANE has")
  static void intsStayWhole() {
    for (int v : new int[] {0, -1, 32768, -32769, 65536, MAX, MIN}) keeps(2, v, v);
  }

  @Promise(number = 3, says = "what it is then")
  static void whatWasCutIsKept() {
    DrawerCards x = withReadableRows();
    x.row(0, 0, 1);
    x.row(1, 1, 1);
    due("byte 256 + 3", x.set(0, 0, 259), 3);
    due("it is 3", itemAt(x, 0, 0), 3);
    due("short 65536 + 5", x.set(1, 0, 65541), 5);
    due("it is 5", itemAt(x, 1, 0), 5);
  }

  @Promise(number = 4, says = "BAD: ROWS; NULL; STORE; PLACE")
  static void copyOfNoRow() {
    DrawerCards x = new DrawerCards();
    x.row(0, 2, 2);
    x.row(7, 2, 2);
    due("copy(0, 0, 7, 0, 2)", x.copy(0, 0, 7, 0, 2), 2);
    due("copy(7, 0, 0, 0, 2)", x.copy(7, 0, 0, 0, 2), 2);
    refused(x, BAD, () -> x.copy(-1, 0, 0, 0, 1), () -> x.copy(8, 0, 0, 0, 1), () -> x.copy(0, 0, -1, 0, 1),
        () -> x.copy(0, 0, 8, 0, 1), () -> x.copy(MIN, 0, MAX, 0, 1));
  }

  @Promise(number = 4, says = "the first of these that fits")
  static void copyBadAheadOfFindings() {
    DrawerCards x = new DrawerCards();
    x.row(0, 0, -1);
    refused(x, BAD, () -> x.copy(1, 0, 8, 0, 1), () -> x.copy(8, 0, 1, 0, 1), () -> x.copy(-1, -1, 1, -1, -1));
    due("status() is of the call before", x.status(), 4);
  }

  @Promise(number = 4, says = "1 NULL (a ROW that is missing)")
  static void copyOfMissingRow() {
    DrawerCards x = new DrawerCards();
    x.row(0, 2, 2);
    refused(x, NULL, () -> x.copy(0, 0, 1, 0, 1), () -> x.copy(1, 0, 0, 0, 1), () -> x.copy(1, 0, 1, 0, 0),
        () -> x.copy(1, 0, 2, 0, 1));
    due("status()", x.status(), 1);
  }

  @Promise(number = 4, says = "of several the first in time")
  static void copyFindingsInTheirOrder() {
    DrawerCards x = new DrawerCards();
    x.row(0, 0, 2);
    x.row(1, 1, 2);
    refused(x, NULL, () -> x.copy(0, -1, 2, 0, 1), () -> x.copy(2, 0, 0, 9, 1), () -> x.copy(2, 0, 1, 0, -1));
    refused(x, STORE, () -> x.copy(0, -1, 1, 0, 1), () -> x.copy(0, 0, 1, 3, 1), () -> x.copy(1, 0, 0, 0, -1),
        () -> x.copy(1, 0, 0, 0, 3));
  }

  @Promise(number = 4, says = "5 STORE (ROWS of two LANES)")
  static void copyBetweenLanes() {
    DrawerCards x = new DrawerCards();
    for (int lane = 0; lane <= 2; lane++) x.row(lane, lane, 2);
    for (int a = 0; a <= 2; a++) {
      for (int b = 0; b <= 2; b++) due("copy from lane " + a + " to " + b, x.copy(a, 0, b, 0, 2), a == b ? 2 : STORE);
    }
    due("of none too", x.copy(0, 0, 1, 0, 0), STORE);
    due("status()", x.status(), 5);
  }

  @Promise(number = 4, says = "PLACE (i, j, n below 0, or beyond an end)")
  static void copyBelowNone() {
    DrawerCards x = withReadableRows();
    rowOf(x, 0, 1, 2, 3);
    rowOf(x, 1, 4, 5);
    refused(x, PLACE, () -> x.copy(0, -1, 1, 0, 1), () -> x.copy(0, 0, 1, -1, 1), () -> x.copy(0, 0, 1, 0, -1),
        () -> x.copy(0, -1, 1, 0, 0), () -> x.copy(0, 0, 1, -1, 0), () -> x.copy(0, 1, 1, 1, -1),
        () -> x.copy(0, MIN, 1, 0, 1), () -> x.copy(0, 0, 1, MIN, 1), () -> x.copy(0, 0, 1, 0, MIN));
    due("status()", x.status(), 2);
    tell(items(x, 0, 3).equals("123") && items(x, 1, 2).equals("45"), "items changed");
  }

  @Promise(number = 4, says = "PLACE (i, j, n below 0, or beyond an end)")
  static void copyBeyondAnEnd() {
    DrawerCards x = withReadableRows();
    rowOf(x, 0, 1, 2, 3);
    rowOf(x, 1, 4, 5);
    refused(x, PLACE, () -> x.copy(0, 0, 1, 0, 3), () -> x.copy(0, 2, 1, 0, 2), () -> x.copy(0, 0, 1, 1, 2),
        () -> x.copy(0, 4, 1, 0, 0), () -> x.copy(0, 0, 1, 3, 0), () -> x.copy(1, 0, 0, 0, 3),
        () -> x.copy(1, 1, 0, 2, 2), () -> x.copy(0, 0, 0, 1, 3));
    tell(items(x, 0, 3).equals("123") && items(x, 1, 2).equals("45"), "items changed");
  }

  @Promise(number = 4, says = "PLACE (i, j, n below 0, or beyond an end)")
  static void copyWhereSumsWrapAround() {
    DrawerCards x = new DrawerCards();
    x.row(0, 2, 3);
    refused(x, PLACE, () -> x.copy(0, 1, 0, 0, MAX), () -> x.copy(0, 0, 0, 1, MAX), () -> x.copy(0, MAX, 0, 0, 1),
        () -> x.copy(0, 0, 0, MAX, 1), () -> x.copy(0, MAX, 0, MAX, MAX), () -> x.copy(0, MAX, 0, 0, 0),
        () -> x.copy(0, 2, 0, 2, MAX));
  }

  @Promise(number = 4, says = "n ITEMS of a from i on come to b from j on")
  static void copyUpToTheEnds() {
    DrawerCards x = withReadableRows();
    rowOf(x, 0, 1, 2, 3);
    rowOf(x, 1, 4, 5);
    due("none behind the last of both", x.copy(0, 3, 1, 2, 0), 0);
    due("the last to the last", x.copy(0, 2, 1, 1, 1), 1);
    tell(items(x, 1, 2).equals("43"), "the last to the last");
    due("the whole shorter one", x.copy(1, 0, 0, 1, 2), 2);
    tell(items(x, 0, 3).equals("143"), "the whole shorter one");
  }

  @Promise(number = 4, says = "n ITEMS of a from i on come to b from j on")
  static void copyOfEmptyAndOfLongestRows() {
    DrawerCards x = withReadableRows();
    x.row(0, 0, 0);
    due("none of an empty one", x.copy(0, 0, 0, 0, 0), 0);
    due("one of an empty one", x.copy(0, 0, 0, 0, 1), PLACE);
    x.row(1, 0, 40);
    x.row(2, 0, 40);
    x.set(1, 0, 2);
    x.set(1, 39, 3);
    due("all 40", x.copy(1, 0, 2, 0, 40), 40);
    due("the first came", itemAt(x, 2, 0), 2);
    due("the last came", itemAt(x, 2, 39), 3);
    due("41", x.copy(1, 0, 2, 0, 41), PLACE);
  }

  @Promise(number = 4, says = "as they were ahead")
  static void copyOverItself() {
    DrawerCards x = withReadableRows();
    rowOf(x, 0, 1, 2, 3, 4, 5);
    due("to the right", x.copy(0, 0, 0, 1, 4), 4);
    tell(items(x, 0, 5).equals("11234"), "to the right: " + items(x, 0, 5));
    due("to the left", x.copy(0, 2, 0, 0, 3), 3);
    tell(items(x, 0, 5).equals("23434"), "to the left: " + items(x, 0, 5));
    due("onto itself", x.copy(0, 0, 0, 0, 5), 5);
    tell(items(x, 0, 5).equals("23434"), "onto itself: " + items(x, 0, 5));
  }

  @Promise(number = 4, says = "n ITEMS of a from i on come to b from j on")
  static void copyLeavesAllElse() {
    DrawerCards x = withReadableRows();
    rowOf(x, 0, 1, 1, 1);
    rowOf(x, 1, 5, 5, 5, 5);
    x.copy(0, 0, 1, 1, 2);
    tell(items(x, 1, 4).equals("5115"), "items on both sides stay");
    tell(items(x, 0, 3).equals("111"), "the row it comes from stays");
    x.set(0, 0, 3);
    tell(items(x, 1, 4).equals("5115"), "the two rows are apart then");
  }

  @Promise(number = 5, says = "BAD; NULL.")
  static void dropOfNoRow() {
    DrawerCards x = new DrawerCards();
    x.row(0, 0, 1);
    x.row(7, 0, 2);
    refused(x, BAD, () -> x.drop(-1), () -> x.drop(8), () -> x.drop(MIN), () -> x.drop(MAX));
    due("drop(0)", x.drop(0), 1);
    due("drop(7)", x.drop(7), 2);
  }

  @Promise(number = 5, says = "1 NULL (a ROW that is missing)")
  static void dropTwice() {
    DrawerCards x = new DrawerCards();
    x.row(3, 1, 4);
    x.drop(3);
    refused(x, NULL, () -> x.drop(3), () -> x.drop(2));
    due("status()", x.status(), 1);
  }

  @Promise(number = 5, says = "how many ITEMS it had")
  static void dropOfEmptyAndOfLongest() {
    DrawerCards x = new DrawerCards();
    x.row(0, 0, 0);
    x.row(1, 2, 40);
    due("none", x.drop(0), 0);
    due("all", x.drop(1), 40);
    due("count(0)", x.count(0), 0);
  }

  @Promise(number = 5, says = "A ROW is missing from now on")
  static void droppedRowIsMissingForAll() {
    DrawerCards x = withReadableRows();
    x.row(0, 2, 3);
    x.row(1, 2, 3);
    x.drop(0);
    refused(x, NULL, () -> x.set(0, 0, 1), () -> x.copy(0, 0, 1, 0, 1), () -> x.copy(1, 0, 0, 0, 1), () -> x.drop(0),
        () -> x.fits(0, 0, 0, 1, 0));
    due("the other one is there", x.count(0), 1);
    due("a new one", x.row(0, 2, 2), 2);
    tell(items(x, 0, 2).equals("00"), "a new one begins with 0");
  }
}
