import java.io.IOException;
import java.util.ArrayDeque;
import java.util.Deque;

/** Boundaries of promises 9 to 15: nights with their turns, puts, turned drawers, likings, undoing, what is told. */
public final class ActsEdgesTest extends Edges {
  private static final String ALL_IN_ONE = "c2,8;r0,1;r0,0;r0,1;r0,2;r0,3;r0,4;r0,5;r0,6;";

  public static void main(String[] args) throws IOException, IllegalAccessException {
    run(ActsEdgesTest.class, 9, 15);
  }

  /** Night by night, the cards are due to stand as told. */
  private static void nightly(String text, String... want) {
    DrawerCards x = read(text);
    stand("reading " + text, x, want[0]);
    for (int k = 1; k < want.length; k++) {
      x.nights(1);
      stand(k + " nights of " + text, x, want[k]);
    }
  }

  @Promise(number = 9, says = "n NIGHTS (1 to 24), an ACT each")
  static void tooFewOrTooManyNights() {
    DrawerCards x = read("c2,2;f0,1;f1,0;");
    refused(x, BAD, () -> x.nights(0), () -> x.nights(25), () -> x.nights(-1), () -> x.nights(MIN), () -> x.nights(MAX));
    due("nights(1)", x.nights(1), 2);
    due("NIGHT", x.count(3), 1);
    due("ACTS", x.count(5), 1);
    due("nights(24)", x.nights(24), 2);
    due("NIGHT", x.count(3), 25);
    due("ACTS", x.count(5), 24);
  }

  @Promise(number = 9, says = "STATE: no CATALOGUE (ahead of BAD)")
  static void noCatalogueAheadOfBad() {
    DrawerCards x = new DrawerCards();
    refused(x, STATE, () -> x.nights(1), () -> x.nights(0), () -> x.nights(25), () -> x.nights(MIN), () -> x.nights(MAX));
  }

  @Promise(number = 9, says = "FULL: beyond NIGHT 9999")
  static void theLastNight() {
    DrawerCards x = read("c2,2;f0,1;f1,0;");
    pass(x, 9984);
    refusedLate(x, FULL, () -> x.nights(16), () -> x.nights(24));
    due("up to the last", x.nights(15), 2);
    due("NIGHT", x.count(3), 9999);
    refusedLate(x, FULL, () -> x.nights(1), () -> x.nights(24));
  }

  @Promise(number = 9, says = "the first of these that fits")
  static void badAheadOfFull() {
    DrawerCards x = read("c2,2;f0,1;");
    pass(x, 9999);
    refusedLate(x, BAD, () -> x.nights(0), () -> x.nights(25), () -> x.nights(-1));
  }

  @Promise(number = 9, says = "FULL: beyond NIGHT 9999")
  static void theLastNightAgainWhenUndone() {
    DrawerCards x = read("c2,2;o0,1;r1,0;");
    pass(x, 9999);
    due("undo()", x.undo(), 23);
    due("NIGHT", x.count(3), 9998);
    refusedLate(x, FULL, () -> x.nights(2));
    due("nights(1)", x.nights(1), 1);
    due("NIGHT", x.count(3), 9999);
  }

  @Promise(number = 9, says = "MATES then")
  static void matesOfTheLastMorning() {
    DrawerCards x = read("c6,2;f0,1;r5,7;");
    due("four nights: not there yet", x.nights(4), 0);
    due("the fifth", x.nights(1), 1);
    due("no mates without a dear", read("c2,1;f0,1;").nights(24), 0);
  }

  @Promise(number = 9, says = "if there is none, it stays where it is in its TURN, but a blank")
  static void noDear() {
    nightly("c3,4;f1,7;o1,7;w1,7;b1,7;", "|0123|", "|0132|", "|0312|", "|3012|", "|3012|");
    // The first number that is no card's, and the last that is one's.
    nightly("c2,2;f0,2;r1,0;", "0|1", "0|1");
    nightly("c2,2;f0,1;r1,0;", "0|1", "|10");
  }

  @Promise(number = 9, says = "if that HOLDS one more (else it stays)")
  static void freeOneBesideAFullDrawer() {
    nightly("c3,1;f0,2;r1,0;r2,0;", "0|1|2", "0|1|2");
    nightly("c3,2;f0,2;r1,0;r2,0;", "0|1|2", "|10|2", "|1|20", "|1|20");
    // On the other side.
    nightly("c3,1;r0,1;r1,0;f2,0;", "0|1|2", "0|1|2");
    // The drawer where its dear is may be full: only the one beside counts.
    nightly("c3,1;f0,1;r2,0;", "0||1", "|0|1", "|0|1");
  }

  @Promise(number = 9, says = "if that HOLDS one more (else it stays)")
  static void theEighthIntoADrawer() {
    String seven = "r1,1;r1,0;r1,0;r1,0;r1,0;r1,0;r1,0;";
    nightly("c2,7;" + seven + "f0,0;", "7|0123456", "7|0123456");
    nightly("c2,8;" + seven + "f0,0;", "7|0123456", "|01234567", "|07123456");
    nightly("c2,7;" + seven + "w0,0;", "7|0123456", "7|0123456");
    nightly("c2,8;" + seven + "w0,0;", "7|0123456", "|07123456");
  }

  @Promise(number = 9, says = "goes over into the DRAWER beside its own on that side")
  static void fromEndToEnd() {
    nightly("c6,2;f0,1;r5,7;", "0|||||1", "|0||||1", "||0|||1", "|||0||1", "||||0|1", "|||||10", "|||||10");
    nightly("c6,2;r0,7;f5,0;", "0|||||1", "0||||1|", "0|||1||", "0||1|||", "0|1||||", "01|||||", "01|||||");
  }

  @Promise(number = 9, says = "A CARD that comes into a DRAWER stands behind all that are in it")
  static void freeOneComesBehindAll() {
    nightly("c2,4;f0,1;r1,0;r1,0;r1,0;", "0|123", "|1230", "|1023");
  }

  @Promise(number = 9, says = "if DEAR is in its own, it comes to stand right behind DEAR")
  static void withinAFullDrawer() {
    nightly("c2,2;f0,1;r0,7;", "01|", "10|", "10|");
    nightly("c2,2;w0,1;r0,7;", "01|", "10|", "10|");
    nightly("c2,2;o0,1;r0,7;", "01|", "10|", "10|");
    nightly("c2,3;r0,7;r0,7;f0,0;", "012|", "021|", "021|");
    // Right behind it already.
    nightly("c2,3;r0,7;f0,0;r0,7;", "012|", "012|");
    // From the first place behind the last.
    nightly("c2,8;f0,7;r0,7;r0,7;r0,7;r0,7;r0,7;r0,7;r0,0;", "01234567|", "12345670|");
  }

  @Promise(number = 9, says = "An old one does so in NIGHTS that are even alone")
  static void oldOneFromNightZeroOn() {
    nightly("c3,2;o0,1;r2,7;", "0||1", "|0|1", "|0|1", "||10", "||10");
    DrawerCards x = read("c2,3;o0,1;r0,7;r0,7;");
    x.nights(1);
    stand("NIGHT 0", x, "102|");
    x.put(0, 0);
    x.nights(1);
    stand("NIGHT 1, in its own drawer too", x, "120|");
    x.nights(1);
    stand("NIGHT 2", x, "102|");
  }

  @Promise(number = 9, says = "An old one does so in NIGHTS that are even alone")
  static void oldOneBesideAFullDrawer() {
    nightly("c3,1;o0,2;r1,0;r2,0;", "0|1|2", "0|1|2", "0|1|2", "0|1|2");
  }

  @Promise(number = 9, says = "An old one does so in NIGHTS that are even alone")
  static void oldOneInTheLastNights() {
    DrawerCards x = read("c2,2;o0,1;r0,7;");
    pass(x, 9998);
    x.put(0, 1);
    x.nights(1);
    stand("NIGHT 9998, which is even", x, "10|");
    x.undo();
    x.undo();
    x.undo();
    due("NIGHT", x.count(3), 9997);
    x.put(0, 1);
    x.nights(1);
    stand("NIGHT 9997, which is odd", x, "1|0");
  }

  @Promise(number = 9, says = "right behind DEAR, if that HOLDS one more (else it stays)")
  static void wildOneAndAFullDrawer() {
    nightly("c6,1;w0,1;r5,7;", "0|||||1", "0|||||1");
    nightly("c6,2;w0,1;r5,7;r5,7;", "0|||||12", "0|||||12");
    nightly("c6,3;w0,1;r5,7;r5,7;", "0|||||12", "|||||102");
    // Full drawers on its way do not matter to it.
    nightly("c3,1;w0,2;r1,7;r2,7;", "0|1|2", "0|1|2");
    nightly("c3,2;w0,3;r1,7;r1,7;r2,7;", "0|12|3", "|12|30");
  }

  @Promise(number = 9, says = "A blank changes places with the CARD right ahead of it, if there is one")
  static void blankInTheFirstPlace() {
    nightly("c2,1;b0,1;r1,0;", "0|1", "0|1");
    nightly("c2,3;b0,1;r0,7;r0,7;", "012|", "012|");
    nightly("c2,2;r0,7;b0,0;", "01|", "10|", "10|");
    nightly("c2,2;b0,7;b0,7;", "01|", "10|", "10|");
    nightly("c2,8;r0,7;r0,7;r0,7;r0,7;r0,7;r0,7;r0,7;b0,0;", "01234567|", "01234576|", "01234756|");
  }

  @Promise(number = 9, says = "One on a rod does nothing")
  static void rodsStay() {
    nightly("c2,2;r0,1;r1,0;r0,1;", "02|1", "02|1", "02|1");
    nightly("c2,2;r0,1;r0,7;", "01|", "01|");
  }

  @Promise(number = 9, says = "A NIGHT: CARD by CARD has its TURN")
  static void roomThatIsMadeOnTheWay() {
    // The first one leaves, so the second one has room in the same night; the other way round it has to wait.
    nightly("c4,1;f1,2;f0,0;r3,7;", "1|0||2", "|1|0|2", "|1|0|2");
    nightly("c4,1;f0,1;f1,2;r3,7;", "0|1||2", "0||1|2", "|0|1|2");
    // The first of two takes the last room.
    nightly("c3,2;f0,3;f2,0;r1,7;r2,7;", "0|2|13", "|20|13", "|20|13");
  }

  @Promise(number = 10, says = "BAD; STATE: another one that HOLDS no more")
  static void putOfNoCardOrNoDrawer() {
    DrawerCards x = read("c3,2;r0,1;r2,0;");
    refused(x, BAD, () -> x.put(-1, 0), () -> x.put(2, 0), () -> x.put(0, -1), () -> x.put(0, 3), () -> x.put(MIN, 0),
        () -> x.put(MAX, 0), () -> x.put(0, MIN), () -> x.put(0, MAX), () -> x.put(2, 3));
    due("the last card into the first drawer", x.put(1, 0), 2);
    due("the first card into the last drawer", x.put(0, 2), 0);
    stand("puts", x, "1||0");
  }

  @Promise(number = 10, says = "STATE: another one that HOLDS no more")
  static void putIntoAFullDrawer() {
    DrawerCards x = read("c3,2;r0,1;r0,0;r1,0;");
    refused(x, STATE, () -> x.put(2, 0));
    due("one more into drawer 1", x.put(0, 1), 0);
    refused(x, STATE, () -> x.put(1, 1));
    due("out of the full one", x.put(2, 2), 1);
    due("one more again", x.put(1, 1), 0);
    stand("puts", x, "|01|2");
  }

  @Promise(number = 10, says = "the first of these that fits")
  static void putBadAheadOfFull() {
    DrawerCards x = read("c2,1;r0,1;r1,0;");
    refused(x, BAD, () -> x.put(2, 0), () -> x.put(-1, 1), () -> x.put(0, 2));
    refused(x, STATE, () -> x.put(0, 1), () -> x.put(1, 0));
  }

  @Promise(number = 10, says = "a CARD is put into a DRAWER (behind all; also the one it is in)")
  static void putIntoItsOwn() {
    DrawerCards x = read("c2,3;r0,1;r0,0;r0,0;r1,0;");
    due("from the first place, though full", x.put(0, 0), 0);
    stand("put", x, "120|3");
    due("from the last place", x.put(0, 0), 0);
    stand("put", x, "120|3");
    due("from the middle", x.put(2, 0), 0);
    stand("put", x, "102|3");
    due("alone", x.put(3, 1), 1);
    stand("put", x, "102|3");
    due("an ACT each", x.count(5), 4);
  }

  @Promise(number = 10, says = "a CARD is put into a DRAWER (behind all; also the one it is in)")
  static void putTheEighthIntoOne() {
    DrawerCards x = read("c2,8;r1,1;r0,0;r0,0;r0,0;r0,0;r0,0;r0,0;r0,0;");
    due("put(0, 0)", x.put(0, 0), 1);
    stand("put", x, "12345670|");
    due("put(3, 0)", x.put(3, 0), 0);
    stand("put", x, "12456703|");
    due("put(1, 1)", x.put(1, 1), 0);
    stand("put", x, "2456703|1");
  }

  @Promise(number = 11, says = "A DRAWER is put in the wrong way round: how many CARDS are in it. BAD.")
  static void turnOfNoDrawer() {
    DrawerCards x = read("c3,2;r0,1;r0,0;r2,0;r2,0;");
    refused(x, BAD, () -> x.turn(-1), () -> x.turn(3), () -> x.turn(MIN), () -> x.turn(MAX));
    due("the first", x.turn(0), 2);
    due("the last", x.turn(2), 2);
    stand("turns", x, "10||32");
  }

  @Promise(number = 11, says = "how many CARDS are in it")
  static void turnOfNoneOfOneOfAll() {
    DrawerCards x = read("c2,8;r0,1;");
    due("none", x.turn(1), 0);
    due("one", x.turn(0), 1);
    stand("turns", x, "0|");
    due("an ACT each, the empty one too", x.count(5), 2);
    DrawerCards y = read(ALL_IN_ONE);
    due("all", y.turn(0), 8);
    stand("turn", y, "76543210|");
    due("again", y.turn(0), 8);
    stand("two turns", y, "01234567|");
  }

  @Promise(number = 11, says = "the last CARD is the first")
  static void turnOfEvenAndOdd() {
    DrawerCards x = read("c2,4;r0,1;r0,0;r0,0;r1,0;r1,0;r1,0;r1,0;");
    x.turn(0);
    stand("three cards", x, "210|3456");
    x.turn(1);
    stand("four cards", x, "210|6543");
  }

  @Promise(number = 12, says = "A CARD LIKES another (0 to 7): whom it liked. BAD (its own number, too).")
  static void likingTooSmallOrTooLarge() {
    DrawerCards x = read("c2,8;f0,1;f0,0;");
    refused(x, BAD, () -> x.like(0, -1), () -> x.like(0, 8), () -> x.like(0, MIN), () -> x.like(0, MAX),
        () -> x.like(-1, 1), () -> x.like(2, 1), () -> x.like(MIN, 1), () -> x.like(MAX, 1));
    due("7, which is no card", x.like(0, 7), 1);
    due("back", x.like(0, 1), 7);
    due("0", x.like(1, 0), 0);
  }

  @Promise(number = 12, says = "BAD (its own number, too)")
  static void likingItsOwn() {
    DrawerCards x = read(ALL_IN_ONE);
    refused(x, BAD, () -> x.like(0, 0), () -> x.like(1, 1), () -> x.like(2, 2), () -> x.like(3, 3), () -> x.like(4, 4),
        () -> x.like(5, 5), () -> x.like(6, 6), () -> x.like(7, 7));
    due("card 7 likes 0", x.like(7, 0), 6);
    due("card 0 likes 7", x.like(0, 7), 1);
    due("no such card, its own number", x.like(8, 8), BAD);
  }

  @Promise(number = 12, says = "a CARD LIKES another")
  static void theSameLikingIsAnAct() {
    DrawerCards x = read("c2,2;f0,1;");
    due("the same", x.like(0, 1), 1);
    due("ACTS", x.count(5), 1);
    due("undo()", x.undo(), 0);
    due("likes", x.card(0, 2), 1);
  }

  @Promise(number = 13, says = "STATE: none")
  static void nothingToUndo() {
    DrawerCards x = new DrawerCards();
    refused(x, STATE, () -> x.undo());
    DrawerCards y = read("c2,2;f0,1;r1,0;");
    refused(y, STATE, () -> y.undo());
    y.nights(1);
    due("undo()", y.undo(), 0);
    refused(y, STATE, () -> y.undo());
  }

  @Promise(number = 13, says = "24 at most are kept, of more the oldest is forgotten")
  static void twentyFourAreKept() {
    DrawerCards x = read("c2,2;f0,1;");
    for (int k = 0; k < 24; k++) x.like(0, 2 + k % 6);
    due("ACTS", x.count(5), 24);
    for (int left = 23; left >= 0; left--) {
      due("undo()", x.undo(), left);
      due("likes", x.card(0, 2), left == 0 ? 1 : 2 + (left - 1) % 6);
    }
    refused(x, STATE, () -> x.undo());
  }

  @Promise(number = 13, says = "24 at most are kept, of more the oldest is forgotten")
  static void theTwentyFifthForgetsTheFirst() {
    DrawerCards x = read("c2,2;f0,1;");
    for (int k = 0; k < 25; k++) x.like(0, 2 + k % 6);
    due("ACTS", x.count(5), 24);
    for (int left = 23; left >= 0; left--) due("undo()", x.undo(), left);
    due("the first one stands", x.card(0, 2), 2);
    refused(x, STATE, () -> x.undo());
  }

  @Promise(number = 13, says = "n NIGHTS (1 to 24), an ACT each")
  static void nightsForgetWhatWasAhead() {
    DrawerCards x = read("c2,2;f0,1;r1,0;");
    x.like(0, 7);
    x.nights(24);
    due("ACTS", x.count(5), 24);
    for (int left = 23; left >= 0; left--) {
      due("undo()", x.undo(), left);
      due("NIGHT", x.count(3), left);
    }
    due("the liking stands", x.card(0, 2), 7);
    refused(x, STATE, () -> x.undo());
  }

  /** What acts can change; picture() would take more calls than an object is good for. */
  private static String changeable(DrawerCards x) {
    StringBuilder text = new StringBuilder(Checks.shelves(x)).append(" NIGHT ").append(x.count(3)).append(" likings");
    for (int c = 0; c < 6; c++) text.append(' ').append(x.card(c, 2));
    return text.append(" ACTS ").append(x.count(5)).toString();
  }

  @Promise(number = 13, says = "each can be undone, the latest first")
  static void allIsAsItWas() {
    DrawerCards x = read("c4,3;f0,2;o0,3;w3,1;r2,0;b2,7;f3,0;");
    Deque<String> before = new ArrayDeque<>();
    for (int k = 0; k < 5; k++) {
      before.push(changeable(x));
      if (k == 0) x.nights(1);
      if (k == 1) x.put(5, 0);
      if (k == 2) x.turn(2);
      if (k == 3) x.like(3, 5);
      if (k == 4) x.nights(1);
    }
    for (int left = 4; left >= 0; left--) {
      due("undo()", x.undo(), left);
      String want = before.pop();
      String got = changeable(x);
      tell(want.equals(got), "undone: " + got + ", due is " + want);
    }
  }

  @Promise(number = 13, says = "how many can be undone yet")
  static void anActBehindUndoing() {
    DrawerCards x = read("c3,2;r0,1;r0,0;");
    x.put(0, 1);
    x.put(0, 2);
    due("undo()", x.undo(), 1);
    x.put(1, 1);
    stand("another put", x, "|01|");
    due("undo()", x.undo(), 1);
    due("undo()", x.undo(), 0);
    stand("all undone", x, "01||");
  }

  @Promise(number = 13, says = "What is refused, or found, changes nothing but status()")
  static void refusedActsAreNone() {
    DrawerCards x = read("c2,1;r0,1;r1,0;");
    x.turn(0);
    x.put(0, 1);
    x.put(0, 2);
    x.turn(2);
    x.like(0, 0);
    x.nights(0);
    due("ACTS", x.count(5), 1);
    due("undo()", x.undo(), 0);
    due("undo()", x.undo(), STATE);
  }

  @Promise(number = 14, says = "3 the CARD right ahead of it (NONE). BAD.")
  static void cardOrWhatTooSmallOrTooLarge() {
    DrawerCards x = read("c2,2;f0,1;f0,0;");
    refused(x, BAD, () -> x.card(-1, 0), () -> x.card(2, 0), () -> x.card(0, -1), () -> x.card(0, 4),
        () -> x.card(MIN, 0), () -> x.card(MAX, 0), () -> x.card(0, MIN), () -> x.card(0, MAX));
    due("the last card, the last what", x.card(1, 3), 0);
    due("the first card, the first what", x.card(0, 0), 0);
  }

  @Promise(number = 14, says = "3 the CARD right ahead of it (NONE)")
  static void noCardAhead() {
    DrawerCards x = read(ALL_IN_ONE);
    due("of the first", x.card(0, 3), NONE);
    for (int c = 1; c < 8; c++) due("of " + c, x.card(c, 3), c - 1);
    for (int c = 0; c < 8; c++) due("place of " + c, x.card(c, 1), c);
    x.put(3, 1);
    due("of one alone", x.card(3, 3), NONE);
    due("of the one that was behind it", x.card(4, 3), 2);
  }

  @Promise(number = 15, says = "Of a DRAWER: 0 how many CARDS, 1 these (bits), 2 the one in PLACE 0 (NONE). BAD.")
  static void drawerOrWhatTooSmallOrTooLarge() {
    DrawerCards x = read("c3,2;f2,1;f0,0;");
    refused(x, BAD, () -> x.drawer(-1, 0), () -> x.drawer(3, 0), () -> x.drawer(0, -1), () -> x.drawer(0, 3),
        () -> x.drawer(MIN, 0), () -> x.drawer(MAX, 0), () -> x.drawer(0, MIN), () -> x.drawer(0, MAX));
    due("the first drawer", x.drawer(0, 2), 1);
    due("the last drawer", x.drawer(2, 2), 0);
  }

  @Promise(number = 15, says = "2 the one in PLACE 0 (NONE)")
  static void emptyAndFullDrawers() {
    DrawerCards x = read(ALL_IN_ONE);
    int[] full = {8, 255, 0};
    int[] empty = {0, 0, NONE};
    for (int what = 0; what <= 2; what++) {
      due("all, " + what, x.drawer(0, what), full[what]);
      due("none, " + what, x.drawer(1, what), empty[what]);
    }
    x.put(7, 1);
    x.put(0, 1);
    int[] two = {2, 129, 7};
    for (int what = 0; what <= 2; what++) due("two, " + what, x.drawer(1, what), two[what]);
    due("the first of the rest", x.drawer(0, 2), 1);
  }
}
