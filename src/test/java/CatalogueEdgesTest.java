import java.io.IOException;

/** Boundaries of promises 6 to 8: the tape, texts, their faults. */
public final class CatalogueEdgesTest extends Edges {
  private static final String EIGHT_CARDS = "c6,8;f0,1;o1,2;w2,3;r3,4;b4,5;f5,6;o0,7;w1,0;";
  private static final String SIXTY_BYTES = "c06,08;f00,01;o01,02;w02,03;r03,04;b04,05;f5,06;o0,07;w1,00;";

  public static void main(String[] args) throws IOException, IllegalAccessException {
    run(CatalogueEdgesTest.class, 6, 8);
  }

  private static int outcome(String text) {
    DrawerCards x = new DrawerCards();
    feed(x, text);
    return x.catalogue();
  }

  private static void reads(String text, int cards) {
    due("catalogue of " + text, outcome(text), cards);
  }

  private static void fails(String text, int number, int place) {
    DrawerCards x = new DrawerCards();
    feed(x, text);
    due("catalogue of " + text, x.catalogue(), -1000100 - place);
    due("fault of " + text, x.fault(), number);
  }

  @Promise(number = 6, says = "A byte (0 to 255) comes behind the tape")
  static void byteTooSmallOrTooLarge() {
    DrawerCards x = new DrawerCards();
    due("feed(0)", x.feed(0), 1);
    due("feed(255)", x.feed(255), 2);
    refused(x, BAD, () -> x.feed(-1), () -> x.feed(256), () -> x.feed(MIN), () -> x.feed(MAX), () -> x.feed(256 + 'c'));
    due("feed(128)", x.feed(128), 3);
  }

  @Promise(number = 6, says = "THE TAPE has at most 60 bytes")
  static void tapeIsFull() {
    DrawerCards x = new DrawerCards();
    for (int n = 1; n <= 60; n++) due("byte " + n, x.feed('c'), n);
    refused(x, FULL, () -> x.feed('c'), () -> x.feed(0), () -> x.feed(255));
    due("count(6)", x.count(6), 60);
  }

  @Promise(number = 6, says = "the first of these that fits")
  static void badAheadOfFull() {
    DrawerCards x = new DrawerCards();
    for (int n = 0; n < 60; n++) x.feed('c');
    refused(x, BAD, () -> x.feed(-1), () -> x.feed(256));
  }

  @Promise(number = 6, says = "What is refused, or found, changes nothing but status()")
  static void refusedBytesLeaveTheText() {
    DrawerCards x = new DrawerCards();
    for (int i = 0; i < SIXTY_BYTES.length(); i++) {
      x.feed(-1);
      x.feed(SIXTY_BYTES.charAt(i));
      x.feed(256);
    }
    due("FULL", x.feed(';'), FULL);
    due("the text of sixty bytes", x.catalogue(), 8);
  }

  @Promise(number = 6, says = "The tape, empty then, is read")
  static void emptyTapeTakesSixtyAgain() {
    DrawerCards x = new DrawerCards();
    for (int n = 0; n < 60; n++) x.feed('c');
    x.catalogue();
    for (int n = 1; n <= 60; n++) due("byte " + n, x.feed(SIXTY_BYTES.charAt(n - 1)), n);
    due("the second text", x.catalogue(), 8);
    due("empty behind a good text too", x.count(6), 0);
    due("the first byte of the third", x.feed(0), 1);
  }

  @Promise(number = 7, says = "the end: how many bytes there are")
  static void everyTextThatEndsTooEarly() {
    for (int n = 0; n < EIGHT_CARDS.length(); n++) {
      String text = EIGHT_CARDS.substring(0, n);
      int cards = n / 5 - 1;
      if (n % 5 == 0 && cards > 0) reads(text, cards);
      else fails(text, 1, n);
    }
    reads(EIGHT_CARDS, 8);
  }

  @Promise(number = 7, says = "the end: how many bytes there are")
  static void theFullTapeEndsTooEarly() {
    String sevenCards = "f00,01;o01,02;w02,03;r03,04;b04,05;f05,06;o00,07;";
    fails("c06,08;" + sevenCards + "w1,0", 1, 60);
    fails("c06,08;" + sevenCards + "w01,", 1, 60);
    fails("c6,08;" + sevenCards + "w01,0", 1, 60);
    fails("1".repeat(60), 1, 0);
    fails("c" + "1".repeat(59), 1, 1);
    fails("c06,08;" + sevenCards + "w000", 1, 57);
  }

  @Promise(number = 7, says = "The tape, empty then, is read")
  static void bytesOfAnEarlierTextAreGone() {
    DrawerCards x = read("c2,1;f0,1;");
    feed(x, "c2,1;f0,1");
    due("the sign that stood behind does not help", x.catalogue(), -1000109);
    feed(x, "c2,111");
    due("three figures", x.catalogue(), -1000103);
    feed(x, "c2,1");
    due("the figures that stood behind do not count", x.catalogue(), -1000104);
    feed(x, "c2,1;f0,1;");
    due("a good one", x.catalogue(), 1);
  }

  @Promise(number = 7, says = "nothing else, no blanks")
  static void everyByteThatCannotStandInThere() {
    String text = "c2,2;f0,1;o1,0;";
    for (int at = 0; at <= text.length(); at++) {
      for (char sign : new char[] {0, '\t', '\n', ' ', '+', '-', '.', '/', ':', '<', '@', 'A', 'C', 'F', 'Z', '[', '`',
        '{', 127, 128, 227, 255}) {
        fails(text.substring(0, at) + sign + text.substring(at), 1, at);
      }
    }
  }

  @Promise(number = 7, says = "1 it cannot stand there")
  static void everyTokenInTheWrongPlace() {
    String text = "c2,2;f0,1;o1,0;";
    for (int at = 0; at < text.length(); at++) {
      for (char sign : "acfz,;5".toCharArray()) {
        char was = text.charAt(at);
        boolean mayStand = was == sign || at % 5 == 0 && at > 0 && sign == 'f' || Character.isDigit(was) && sign == '5';
        boolean joins = sign == '5' && at > 0 && Character.isDigit(text.charAt(at - 1));
        if (!mayStand && !joins) fails(text.substring(0, at) + sign + text.substring(at + 1), 1, at);
      }
    }
  }

  @Promise(number = 7, says = "SORT: f a free one, o an old one, w a wild one, r one on a rod, b a blank")
  static void everyLetterAsSort() {
    for (char letter = 'a'; letter <= 'z'; letter++) {
      String text = "c2,2;" + letter + "0,1;";
      if ("fowrb".indexOf(letter) >= 0) reads(text, 1);
      else fails(text, 1, 5);
    }
  }

  @Promise(number = 7, says = "letters a to z (each by itself)")
  static void lettersDoNotJoin() {
    fails("cc2,2;f0,1;", 1, 1);
    fails("c2,2;ff0,1;", 1, 6);
    fails("c2,2;f0,1;wo", 1, 11);
    fails("f0,1;", 1, 0);
  }

  @Promise(number = 7, says = "NUMBERS (figures, 2 at most)")
  static void numbersOfTwoFigures() {
    reads("c02,01;f00,01;", 1);
    reads("c06,08;f05,07;", 1);
    fails("c20,1;f0,1;", 2, 1);
    fails("c2,80;f0,1;", 2, 3);
    fails("c2,2;f10,1;", 2, 6);
    fails("c2,2;f0,10;", 2, 8);
    fails("c2,2;f00,00;", 2, 9);
  }

  @Promise(number = 7, says = "a run of three figures, at its first")
  static void numbersOfThreeFigures() {
    fails("c002,1;f0,1;", 1, 1);
    fails("c2,001;f0,1;", 1, 3);
    fails("c2,1;f000,1;", 1, 6);
    fails("c2,1;f0,001;", 1, 8);
    fails("c0000000000000000000000000000000000000000000000000000000002", 1, 1);
    fails("c999", 1, 1);
  }

  @Promise(number = 7, says = "of one TOKEN the least")
  static void threeFiguresWhereNoneMayStand() {
    fails("123", 1, 0);
    fails("c2123", 1, 1);
    fails("c2,1;123", 1, 5);
    fails("c2,1;f0,1;123", 1, 10);
    fails(EIGHT_CARDS + "123", 1, 45);
    fails(EIGHT_CARDS + "x", 1, 45);
    fails(EIGHT_CARDS + "c", 1, 45);
    fails(EIGHT_CARDS + ";", 1, 45);
    fails(EIGHT_CARDS + " ", 1, 45);
  }

  @Promise(number = 7, says = "FAULTS, the first TOKEN that has one (its first byte)")
  static void theFirstOfSeveralFaults() {
    fails("c7,9;x", 2, 1);
    fails("c2,9;x", 2, 3);
    fails("c2,1;f9,9,", 2, 6);
    fails("c2,1;f0,9,", 2, 8);
    fails("c2,1;f0,1,f9,999;", 1, 9);
    fails("c2,1;f0,1;f0,1;", 2, 11);
    fails("c99999", 1, 1);
    fails("c99,", 2, 1);
    fails("c9", 2, 1);
  }

  @Promise(number = 7, says = "2 to 6: DRAWERS 0, 1, .. in a row")
  static void drawersTooFewOrTooMany() {
    for (int drawers = 0; drawers <= 99; drawers++) {
      String text = "c" + drawers + ",1;f0,1;";
      if (drawers >= 2 && drawers <= 6) reads(text, 1);
      else fails(text, 2, 1);
    }
    due("two", read("c2,1;f0,1;").count(1), 2);
    due("six", read("c6,1;f0,1;").count(1), 6);
  }

  @Promise(number = 7, says = "1 to 8: so many CARDS a DRAWER HOLDS")
  static void holdsTooFewOrTooMany() {
    for (int holds = 0; holds <= 99; holds++) {
      String text = "c2," + holds + ";f0,1;";
      if (holds >= 1 && holds <= 8) reads(text, 1);
      else fails(text, 2, 3);
    }
    due("one", read("c2,1;f0,1;").count(4), 1);
    due("eight", read("c2,8;f0,1;").count(4), 8);
  }

  @Promise(number = 7, says = "a DRAWER that HOLDS one more yet")
  static void noSuchDrawer() {
    for (int drawers = 2; drawers <= 6; drawers++) {
      reads("c" + drawers + ",1;f" + (drawers - 1) + ",1;", 1);
      fails("c" + drawers + ",1;f" + drawers + ",1;", 2, 6);
    }
    fails("c6,1;f99,1;", 2, 6);
  }

  @Promise(number = 7, says = "a DRAWER that HOLDS one more yet")
  static void drawerIsFull() {
    for (int holds = 1; holds <= 7; holds++) {
      StringBuilder text = new StringBuilder("c2,").append(holds).append(';');
      for (int c = 0; c < holds; c++) text.append("r0,").append(c == 0 ? 1 : 0).append(';');
      reads(text.toString(), holds);
      reads(text + "r1,0;", holds + 1);
      fails(text + "r0,0;", 2, 6 + 5 * holds);
    }
    due("all eight in one", read("c2,8;r0,1;r0,0;r0,0;r0,0;r0,0;r0,0;r0,0;r0,0;").drawer(0, 0), 8);
  }

  @Promise(number = 7, says = "a DRAWER that HOLDS one more yet")
  static void allDrawersAreFull() {
    reads("c2,1;f0,1;f1,0;", 2);
    fails("c2,1;f0,1;f1,0;f0,1;", 2, 16);
    fails("c2,1;f0,1;f1,0;f1,1;", 2, 16);
    fails("c2,1;f0,1;f1,0;f2,1;", 2, 16);
    fails("c2,1;f0,1;f1,0;f", 1, 16);
  }

  @Promise(number = 7, says = "LIKES: a number 0 to 7, not its own")
  static void likingTooLargeOrItsOwn() {
    for (int likes = 0; likes <= 99; likes++) {
      String text = "c2,8;f0," + likes + ";";
      if (likes >= 1 && likes <= 7) reads(text, 1);
      else fails(text, 2, 8);
    }
    for (int card = 0; card < 8; card++) {
      String text = EIGHT_CARDS.substring(0, 5 + 5 * card);
      fails(text + "f0," + card + ";", 2, 8 + 5 * card);
      reads(text + "f0," + (card + 7) % 8 + ";", card + 1);
    }
  }

  @Promise(number = 7, says = "3 a card more than there is room for (its letter)")
  static void theNinthCard() {
    reads(EIGHT_CARDS, 8);
    fails(EIGHT_CARDS + "f", 3, 45);
    fails(EIGHT_CARDS + "f0,1;", 3, 45);
    fails(EIGHT_CARDS + "b9,9,", 3, 45);
    fails(EIGHT_CARDS + "o5,1;w5,1;f5,1;", 3, 45);
    // Its letter is the last byte that the tape takes.
    fails("c06,08;f00,01;o01,02;w02,03;r03,04;b4,05;f5,06;o0,07;w1,00;f", 3, 59);
  }

  @Promise(number = 7, says = "how many CARDS there are")
  static void theLongestText() {
    DrawerCards x = read(SIXTY_BYTES);
    due("bytes", SIXTY_BYTES.length(), 60);
    due("cards", x.count(2), 8);
    due("drawers of cards", x.count(7), 1234501);
    stand("the longest text", x, "06|17|2|3|4|5");
    for (int c = 0; c < 8; c++) due("liking of " + c, x.card(c, 2), (c + 1) % 8);
  }

  @Promise(number = 7, says = "it stands behind all that are in it")
  static void cardsBehindOneAnother() {
    stand("reading", read("c2,8;r1,1;r0,0;r1,0;r1,0;r0,0;r1,0;r1,0;r1,0;"), "14|023567");
  }

  @Promise(number = 7, says = "all stays")
  static void aFaultLeavesTheCatalogue() {
    DrawerCards x = read("c3,2;f0,1;o2,0;");
    x.nights(1);
    x.turn(0);
    x.ask(1, 0);
    String before = picture(x).replaceAll("fault \\d+", "");
    for (String text : new String[] {"", "c4,4;", "c4,4;f1,1;f9", "c4,4;f1,1;f1"}) {
      feed(x, text);
      tell(x.catalogue() < NONE, "a fault");
      String behind = picture(x).replaceAll("fault \\d+", "");
      tell(before.equals(behind), "the fault of " + text + " changed " + before + " into " + behind);
    }
    due("the turn can be undone", x.undo(), 1);
    due("and the night", x.undo(), 0);
    stand("all undone", x, "0||1");
  }

  @Promise(number = 7, says = "The tape, empty then, is read")
  static void aFaultEmptiesTheTape() {
    DrawerCards x = new DrawerCards();
    feed(x, "c2,1;f");
    due("a fault", x.catalogue(), -1000106);
    due("count(6)", x.count(6), 0);
    feed(x, "0,1;");
    due("what comes then stands alone", x.catalogue(), -1000100);
    due("an empty tape", x.catalogue(), -1000100);
    due("its fault", x.fault(), 1);
  }

  @Promise(number = 7, says = "NIGHT 0; no ACT can be undone")
  static void aNewCatalogueBeginsAnew() {
    DrawerCards x = read("c6,8;f0,1;o2,0;w3,0;");
    x.nights(5);
    x.like(0, 2);
    feed(x, "c2,1;b1,7;");
    due("catalogue()", x.catalogue(), 1);
    int[] want = {0, 2, 1, 0, 1, 0, 0, 1};
    for (int what = 0; what <= 7; what++) due("count(" + what + ")", x.count(what), want[what]);
    refused(x, STATE, () -> x.undo());
    refused(x, BAD, () -> x.card(1, 0), () -> x.drawer(2, 0), () -> x.put(0, 2));
    due("drawer 0 is empty", x.drawer(0, 0), 0);
  }

  @Promise(number = 7, says = "A CATALOGUE that is read stands in place of the one before")
  static void aNewCatalogueLeavesAllElse() {
    DrawerCards x = read("c6,8;r0,1;o2,0;");
    rowOf(x, 5, 3, 4);
    x.image(1);
    x.ask(1, 1);
    feed(x, "c6,1;r1,7;");
    x.catalogue();
    due("the trace", x.trace(0), 24);
    tell(items(x, 5, 2).equals("34"), "the row's items");
    due("the image", x.restore(1), 1);
    due("its cards", x.count(2), 2);
  }

  @Promise(number = 8, says = "0 before one")
  static void noFaultYet() {
    DrawerCards x = new DrawerCards();
    due("new", x.fault(), 0);
    for (int n = 0; n < 61; n++) x.feed(n == 60 ? -1 : 'c');
    due("refused bytes are none", x.fault(), 0);
    due("a good text is none", read(EIGHT_CARDS).fault(), 0);
  }

  @Promise(number = 8, says = "The number of the latest FAULT")
  static void theLatestOfSeveral() {
    DrawerCards x = new DrawerCards();
    String[] texts = {EIGHT_CARDS + "f", "c7", "x", "c2,1;f2", EIGHT_CARDS + "r"};
    int[] want = {3, 2, 1, 2, 3};
    for (int k = 0; k < texts.length; k++) {
      feed(x, texts[k]);
      x.catalogue();
      due("fault of " + texts[k], x.fault(), want[k]);
    }
  }

  @Promise(number = 8, says = "The number of the latest FAULT")
  static void aGoodTextLeavesTheLatest() {
    DrawerCards x = new DrawerCards();
    feed(x, "c7");
    x.catalogue();
    feed(x, EIGHT_CARDS);
    due("a good text", x.catalogue(), 8);
    due("the latest fault yet", x.fault(), 2);
    x.nights(25);
    due("a refusal is no fault", x.fault(), 2);
  }
}
