/** Promises 7 to 9: rules, their spans over blocks, and the room parted until it is sure. */
public final class RulesTest {
  private static final int BAD = Check.BAD, NO_VALUE = Check.NO_VALUE, MIN = Check.MIN, MAX = Check.MAX;
  private static final String RULES = "promise 7, Terms", SPANS = "promise 8, Terms", PARTED = "promise 9, Terms";
  private static final String NO_SPAN =
      "BAD -1000000000: also u below x, v below y, w below z, or they are no POINTS.";
  private static final String SURE =
      "is SURE, if its SPAN's high is below 0 (WITHIN) or its low is not (without), or it is one POINT";

  public static void main(String[] args) {
    Check.sentence(RULES, "ball: (X - x) (X - x) + (Y - y) (Y - y) + (Z - z) (Z - z) - r r at a place X, Y, Z.",
        RulesTest::ball);
    Check.sentence(RULES, "box: the greatest of x - X, X - u, y - Y, Y - v, z - Z, Z - w, less 1.", RulesTest::box);
    Check.sentence(RULES, "plane: a X + b Y + c Z - d.", RulesTest::plane);
    Check.sentence(RULES, "or: the less of both; and: the greater; less: the greater of the first and of the second"
        + " with the other sign.", RulesTest::pairs);
    Check.sentence(RULES, "move: that at X - x, Y - y, Z - z. turn: that at Y, Z, X. flip: that at -X, Y, Z.",
        RulesTest::placed);
    Check.sentence(RULES, "rep n: that at X modulo n (0 to n - 1, also below 0), Y, Z.", RulesTest::repeated);
    Check.sentence(RULES, "A BODY has a RULE: a whole number for each x, y, z (of any size)", RulesTest::farPlaces);
    Check.sentence("promise 7", "The RULE at x, y, z (-1000 to 1000 each).", RulesTest::ruleUpTo1000);
    Check.sentence("promise 7", "BAD -1000000000.", RulesTest::ruleOfNoBody);

    Check.sentence(SPANS, "ball: of each of the three the least and the greatest square that a whole number from a to b"
        + " less x has, summed, less r r.", RulesTest::ballSpans);
    Check.sentence(SPANS, "box: of each of the six the least, the greatest; the greatest of all least ones, of all"
        + " greatest ones, less 1.", RulesTest::boxSpans);
    Check.sentence(SPANS, "plane: of each of the three products the least, the greatest, summed, less d.",
        RulesTest::planeSpans);
    Check.sentence(SPANS, "or: the less of both lows, of both highs; and: the greater ones; less: likewise, of the"
        + " second the high with the other sign as low, the low as high.", RulesTest::pairSpans);
    Check.sentence(SPANS, "move, turn, flip: of that over the BLOCK moved, turned, flipped likewise.",
        RulesTest::placedSpans);
    Check.sentence(SPANS, "rep: of that over X from a modulo n to b modulo n", RulesTest::spansInOneTurn);
    Check.sentence(SPANS, "from 0 to n - 1, if the BLOCK has n whole X or more", RulesTest::spansOfWholeTurns);
    Check.sentence(SPANS, "or b modulo n is below a modulo n.", RulesTest::spansOverTheSeam);
    Check.sentence("promise 8", "THE SPAN over a BLOCK: low (high false), high. (x, y, z is its least POINT, u, v, w"
        + " its greatest one.)", RulesTest::smallestAndGreatestBlock);
    Check.sentence("promise 8", NO_SPAN, RulesTest::spanBackwards);
    Check.sentence("promise 8", NO_SPAN, RulesTest::spanOfNoPoints);
    Check.sentence("promise 8", NO_SPAN, RulesTest::spanOfNoBody);

    Check.sentence(PARTED, SURE, RulesTest::sureByTheHigh);
    Check.sentence(PARTED, SURE, RulesTest::sureByTheLow);
    Check.sentence(PARTED, SURE, RulesTest::sureAtOnePoint);
    Check.sentence(PARTED, "each of its x, y, z with more than one whole number is parted in two (the lower part has"
        + " the greater half), and these (8, 4 or 2) are parted likewise.", RulesTest::partedInTwos);
    Check.sentence("promise 9", "3 how deep it goes (THE ROOM alone 0), 4 blocks whose SPAN was asked.",
        RulesTest::theRoomAlone);
    Check.sentence("promise 9", "BAD.", RulesTest::partedBad);
    Check.finish("RulesTest");
  }

  private static void due(String call, int got, int want) {
    Check.due(call, got, want);
  }

  // ---- promise 7

  private static void ball() {
    SignSolids s = Check.with("ball 1 -2 3 4", "ball 0 0 0 0", "ball -20 20 -20 20");
    due("ball", s.rule(0, 2, 0, 0), 1 + 4 + 9 - 16);
    due("far", s.rule(0, -1000, 1000, 1000), 1001 * 1001 + 1002 * 1002 + 997 * 997 - 16);
    due("r 0 in its middle", s.rule(1, 0, 0, 0), 0);
    due("r 0 beside it", s.rule(1, 0, -1, 0), 1);
    due("r 20 in its middle", s.rule(2, -20, 20, -20), -400);
    due("r 20 at its end", s.rule(2, 0, 20, -20), 0);
  }

  private static void box() {
    SignSolids s = Check.with("box -1 -2 -3 4 5 6", "box 2 2 2 2 2 2", "box -20 -20 -20 20 20 20");
    due("low x", s.rule(0, -4, 0, 0), 2);
    due("high x", s.rule(0, 10, 0, 0), 5);
    due("low y", s.rule(0, 0, -8, 0), 5);
    due("high y", s.rule(0, 0, 7, 0), 1);
    due("low z", s.rule(0, 0, 0, -7), 3);
    due("high z", s.rule(0, 0, 0, 1000), 993);
    due("inside", s.rule(0, 2, 1, 1), -3);
    int[][] sides = {{-1, 1, 1}, {4, 1, 1}, {1, -2, 1}, {1, 5, 1}, {1, 1, -3}, {1, 1, 6}};
    int[] out = {-1, 1, -1, 1, -1, 1};
    for (int k = 0; k < 6; k++) {
      int[] p = sides[k].clone();
      due("at side " + k, s.rule(0, p[0], p[1], p[2]), -1);
      p[k / 2] += out[k];
      due("beyond side " + k, s.rule(0, p[0], p[1], p[2]), 0);
    }
    due("of one place", s.rule(1, 2, 2, 2), -1);
    due("the greatest one's middle", s.rule(2, 0, 0, 0), -21);
  }

  private static void plane() {
    SignSolids s = Check.with("plane 2 -3 5 7", "plane 0 0 0 0", "plane 20 -20 20 -20");
    due("plane", s.rule(0, 1, 2, 3), 2 - 6 + 15 - 7);
    due("of noughts", s.rule(1, 1000, -1000, 1000), 0);
    due("the steepest", s.rule(2, 1000, -1000, 1000), 60020);
    due("the steepest below 0", s.rule(2, -1000, 1000, -1000), -59980);
  }

  private static void pairs() {
    SignSolids s = Check.with("or ball 0 0 0 2 plane 1 0 0 0", "and ball 0 0 0 2 plane 1 0 0 0",
        "less ball 0 0 0 2 plane 1 0 0 0", "less plane 1 0 0 0 plane 1 0 0 0");
    due("or, ball less", s.rule(0, 1, 0, 0), -3);
    due("or, plane less", s.rule(0, -9, 0, 0), -9);
    due("and, plane greater", s.rule(1, 1, 0, 0), 1);
    due("and, ball greater", s.rule(1, -9, 0, 0), 77);
    due("less, second's sign", s.rule(2, -1, 0, 0), 1);
    due("less, first", s.rule(2, 1, 0, 0), -1);
    due("less, first greater", s.rule(2, 9, 0, 0), 77);
    for (int x = -2; x <= 2; x++) {
      due("less of itself at " + x, s.rule(3, x, 0, 0), Math.abs(x));
    }
    // Of the second, 0 with the other sign is not below 0: less takes its noughts along.
    due("less a ball of 0", Check.with("less box -1 -1 -1 1 1 1 ball 0 0 0 0").volume(0), 26);
    due("less a ball of 1", Check.with("less box -1 -1 -1 1 1 1 ball 0 0 0 1").volume(0), 20);
    due("less a box", Check.with("less box -2 -2 -2 2 2 2 box 0 0 0 0 0 0").volume(0), 98);
  }

  private static void placed() {
    SignSolids s = Check.with("turn plane 1 2 3 0", "move 1 2 3 plane 20 1 3 0", "flip plane 3 1 7 0",
        "turn turn turn plane 1 2 3 0", "move 1 0 0 turn plane 1 2 3 0", "turn move 1 0 0 plane 1 2 3 0");
    due("turn", s.rule(0, 5, 10, 100), 10 + 200 + 15);
    due("move", s.rule(1, 5, 5, 5), 80 + 3 + 6);
    due("flip", s.rule(2, 4, 1, 2), -12 + 1 + 14);
    due("flip at 0", s.rule(2, 0, 1, 2), 1 + 14);
    due("three turns are none", s.rule(3, 5, 10, 100), 5 + 20 + 300);
    due("move, then turn", s.rule(4, 5, 10, 100), 10 + 200 + 12);
    due("turn, then move", s.rule(5, 5, 10, 100), 9 + 200 + 15);
  }

  private static void repeated() {
    for (int n = 1; n <= 20; n++) {
      SignSolids s = Check.with("rep " + n + " plane 1 20 0 0");
      due("rep " + n + " at 0", s.rule(0, 0, 1, 0), 20);
      due("rep " + n + " at n - 1", s.rule(0, n - 1, 1, 0), 20 + n - 1);
      due("rep " + n + " at n", s.rule(0, n, 1, 0), 20);
      due("rep " + n + " at -1", s.rule(0, -1, 1, 0), 20 + n - 1);
      due("rep " + n + " at -n", s.rule(0, -n, 1, 0), 20);
      due("rep " + n + " at -n - 1", s.rule(0, -n - 1, 1, 0), 20 + n - 1);
      due("rep " + n + " at 1000", s.rule(0, 1000, 1, 0), 20 + 1000 % n);
      due("rep " + n + " at -1000", s.rule(0, -1000, 1, 0), 20 + (1000 * n - 1000) % n);
    }
    SignSolids s = Check.with("rep 4 plane 1 7 3 0", "turn rep 4 plane 1 0 0 0");
    due("y and z stay", s.rule(0, 5, -5, -9), 1 - 35 - 27);
    due("turned, y repeats", s.rule(1, 100, -1, 100), 3);
  }

  private static void farPlaces() {
    String nine = "move-20-20-20".repeat(9);
    SignSolids s = Check.with(nine + "ball-20-20-20 0", nine + "plane 20 20 20 -20");
    due("a ball 200 away", s.rule(0, 1000, 1000, 1000), 3 * 1200 * 1200);
    due("a plane 180 away", s.rule(1, 1000, 1000, 1000), 3 * 20 * 1180 + 20);
    due("a ball at the other side", s.rule(0, -1000, -1000, -1000), 3 * 800 * 800);
    due("its span over the room", s.span(0, -7, -7, -7, 7, 7, 7, true), 3 * 207 * 207);
    due("the span's low", s.span(0, -7, -7, -7, 7, 7, 7, false), 3 * 193 * 193);
  }

  private static void ruleUpTo1000() {
    SignSolids s = Check.with("plane 1 2 3 0");
    for (int far : new int[] {-1000, 1000}) {
      due("x " + far, s.rule(0, far, 0, 0), far);
      due("y " + far, s.rule(0, 0, far, 0), 2 * far);
      due("z " + far, s.rule(0, 0, 0, far), 3 * far);
      due("all " + far, s.rule(0, far, far, far), 6 * far);
    }
    for (int far : Check.outside(-1000, 1000)) {
      due("x " + far, s.rule(0, far, 0, 0), NO_VALUE);
      due("y " + far, s.rule(0, 0, far, 0), NO_VALUE);
      due("z " + far, s.rule(0, 0, 0, far), NO_VALUE);
    }
  }

  private static void ruleOfNoBody() {
    SignSolids s = Check.with("plane 1 2 3 0", "plane 1 2 3 0");
    for (int b : Check.noBodies(2)) {
      due("body " + b, s.rule(b, 0, 0, 0), NO_VALUE);
    }
    s.drop();
    due("a body that has gone", s.rule(1, 0, 0, 0), NO_VALUE);
    due("no bodies", new SignSolids().rule(0, 0, 0, 0), NO_VALUE);
  }

  // ---- promise 8

  private static int[] block(int... at) {
    return at;
  }

  private static void spans(String what, SignSolids s, int b, int[] at, int low, int high) {
    due("low of " + what, s.span(b, at[0], at[1], at[2], at[3], at[4], at[5], false), low);
    due("high of " + what, s.span(b, at[0], at[1], at[2], at[3], at[4], at[5], true), high);
  }

  /** Spans of a body over x from a to b, with y and z at 0. */
  private static void spansX(String what, SignSolids s, int b, int from, int to, int low, int high) {
    spans(what + " from " + from + " to " + to, s, b, block(from, 0, 0, to, 0, 0), low, high);
  }

  private static void ballSpans() {
    SignSolids s = Check.with("ball 1 -2 3 4", "ball 0 0 0 1");
    spans("ball round its middle", s, 0, block(-1, -4, 0, 2, 0, 4), -16, 4 + 4 + 9 - 16);
    spans("ball beside it", s, 0, block(3, 0, -7, 5, 1, -6), 4 + 4 + 81 - 16, 16 + 9 + 100 - 16);
    int[][] rows = {{1, 3, 0, 8}, {0, 3, -1, 8}, {-1, 3, -1, 8}, {-3, 1, -1, 8}, {-3, 0, -1, 8}, {-3, -1, 0, 8},
      {-2, 3, -1, 8}, {-3, 2, -1, 8}, {0, 0, -1, -1}, {1, 1, 0, 0}, {-1, -1, 0, 0}};
    for (int[] r : rows) {
      spans("x " + r[0] + " to " + r[1], s, 1, block(r[0], 0, 0, r[1], 0, 0), r[2], r[3]);
      spans("y " + r[0] + " to " + r[1], s, 1, block(0, r[0], 0, 0, r[1], 0), r[2], r[3]);
      spans("z " + r[0] + " to " + r[1], s, 1, block(0, 0, r[0], 0, 0, r[1]), r[2], r[3]);
    }
  }

  private static void boxSpans() {
    SignSolids s = Check.with("box -1 -1 -1 2 2 2", "box 0 0 0 0 0 0");
    // The low is made of six that no one place has.
    spans("the room", s, 0, block(-7, -7, -7, 7, 7, 7), -9, 5);
    spans("beside it", s, 0, block(4, 0, 0, 6, 1, 1), 1, 3);
    spans("below it", s, 0, block(-7, 0, 0, -5, 1, 1), 3, 5);
    spans("in y", s, 0, block(0, 5, 0, 0, 7, 0), 2, 4);
    spans("below in y", s, 0, block(0, -6, 0, 0, -4, 0), 2, 4);
    spans("in z", s, 0, block(0, 0, 3, 0, 0, 4), 0, 1);
    spans("below in z", s, 0, block(0, 0, -4, 0, 0, -3), 1, 2);
    spans("within it", s, 0, block(0, 0, 0, 1, 1, 1), -3, -2);
    spansX("one place", s, 1, 0, 0, -1, -1);
    spansX("one place and its side", s, 1, 0, 1, -1, 0);
  }

  private static void planeSpans() {
    SignSolids s = Check.with("plane 2 -3 5 7", "plane -1 0 0 0", "plane 0 0 0 3");
    spans("plane", s, 0, block(-1, -2, -7, 3, 4, 7), -2 - 12 - 35 - 7, 6 + 6 + 35 - 7);
    spansX("falling", s, 1, -3, 5, -5, 3);
    spans("of noughts", s, 2, block(-7, -7, -7, 7, 7, 7), -3, -3);
  }

  private static void pairSpans() {
    SignSolids s = Check.with("or plane 1 0 0 0 plane 0 1 0 0", "and plane 1 0 0 0 plane 0 1 0 0",
        "less plane 1 0 0 0 plane 0 1 0 0", "less plane 0 0 0 9 plane 1 0 0 0");
    spans("or, the first low", s, 0, block(-3, 1, 0, 5, 2, 0), -3, 2);
    spans("or, the second low", s, 0, block(1, -3, 0, 2, 5, 0), -3, 2);
    spans("and, the first high", s, 1, block(-3, 1, 0, 5, 2, 0), 1, 5);
    spans("and, the second high", s, 1, block(1, -3, 0, 2, 5, 0), 1, 5);
    spans("less", s, 2, block(-3, 1, 0, 0, 2, 0), -2, 0);
    spans("less, by the second", s, 2, block(-7, 1, 0, -5, 2, 0), -2, -1);
    spansX("less, the second's ends change places", s, 3, -3, 5, -5, 3);
  }

  private static void placedSpans() {
    SignSolids s = Check.with("turn plane 1 2 3 0", "flip plane 1 0 0 0", "move 1 2 3 plane 1 10 3 0",
        "flip ball 3 0 0 1", "turn ball 0 0 3 1", "less plane 0 0 0 1 rep 3 move 1 0 0 plane 1 0 0 0");
    spans("turn", s, 0, block(1, 2, 3, 4, 5, 6), 2 + 6 + 3, 5 + 12 + 12);
    spansX("flip", s, 1, -2, 5, -5, 2);
    spans("move", s, 2, block(0, 0, 0, 1, 1, 1), -1 - 20 - 9, 0 - 10 - 6);
    spansX("a flipped ball", s, 3, -4, -2, -1, 0);
    spansX("a turned ball", s, 4, 2, 4, -1, 0);
    spansX("less of rep", s, 5, 0, 1, 0, 1);
  }

  private static void spansInOneTurn() {
    SignSolids s = Check.with("rep 4 plane 1 0 0 0", "rep 20 plane 1 0 0 0", "rep 8 plane 1 0 0 0");
    spansX("rep 4", s, 0, 1, 3, 1, 3);
    spansX("rep 4", s, 0, 0, 2, 0, 2);
    spansX("rep 4", s, 0, 4, 6, 0, 2);
    spansX("rep 4", s, 0, -4, -2, 0, 2);
    spansX("rep 4", s, 0, -3, -1, 1, 3);
    spansX("rep 4, one place", s, 0, -1, -1, 3, 3);
    spansX("rep 4, one place", s, 0, 4, 4, 0, 0);
    spansX("rep 20", s, 1, 0, 7, 0, 7);
    spansX("rep 20", s, 1, -7, -1, 13, 19);
    spansX("rep 8", s, 2, -7, -1, 1, 7);
  }

  private static void spansOfWholeTurns() {
    SignSolids s = Check.with("rep 4 plane 1 0 0 0", "rep 1 plane 1 0 0 0", "rep 15 plane 1 0 0 0",
        "rep 14 plane 1 0 0 0", "rep 7 plane 1 0 0 0", "rep 2 plane 1 0 0 0");
    spansX("rep 4 of four", s, 0, 4, 7, 0, 3);
    spansX("rep 4 of four", s, 0, 1, 4, 0, 3);
    // Of five, the first and the last are alike modulo 4.
    spansX("rep 4 of five", s, 0, 0, 4, 0, 3);
    spansX("rep 4 of five", s, 0, 1, 5, 0, 3);
    spansX("rep 4 of five", s, 0, -5, -1, 0, 3);
    spansX("rep 4 of six", s, 0, 0, 5, 0, 3);
    spansX("rep 4 of the room", s, 0, -7, 7, 0, 3);
    spansX("rep 1 of one", s, 1, 5, 5, 0, 0);
    spansX("rep 1 of the room", s, 1, -7, 7, 0, 0);
    spansX("rep 15 of the room", s, 2, -7, 7, 0, 14);
    spansX("rep 14 of the room", s, 3, -7, 7, 0, 13);
    spansX("rep 7 of the room", s, 4, -7, 7, 0, 6);
    spansX("rep 2 of three", s, 5, -1, 1, 0, 1);
  }

  private static void spansOverTheSeam() {
    SignSolids s = Check.with("rep 4 plane 1 0 0 0", "rep 20 plane 1 0 0 0", "rep 16 plane 1 0 0 0");
    spansX("rep 4", s, 0, 3, 4, 0, 3);
    spansX("rep 4", s, 0, -1, 0, 0, 3);
    spansX("rep 4", s, 0, 2, 4, 0, 3);
    spansX("rep 4", s, 0, 3, 5, 0, 3);
    spansX("rep 20", s, 1, -1, 0, 0, 19);
    spansX("rep 20", s, 1, -7, 7, 0, 19);
    spansX("rep 16", s, 2, -7, 7, 0, 15);
  }

  private static void smallestAndGreatestBlock() {
    SignSolids s = Check.with("plane 1 2 3 0");
    for (int c : new int[] {-7, 0, 7}) {
      spans("one point", s, 0, block(c, c, c, c, c, c), 6 * c, 6 * c);
    }
    spans("the room", s, 0, block(-7, -7, -7, 7, 7, 7), -42, 42);
    spans("two points", s, 0, block(6, 7, 7, 7, 7, 7), 41, 42);
    spans("six ends", s, 0, block(-6, -5, -4, 1, 2, 3), -6 - 10 - 12, 1 + 4 + 9);
  }

  private static void spanBackwards() {
    SignSolids s = Check.with("ball 0 0 0 1");
    for (int c = -7; c < 7; c++) {
      spans("u below x", s, 0, block(c + 1, 0, 0, c, 0, 0), NO_VALUE, NO_VALUE);
      spans("v below y", s, 0, block(0, c + 1, 0, 0, c, 0), NO_VALUE, NO_VALUE);
      spans("w below z", s, 0, block(0, 0, c + 1, 0, 0, c), NO_VALUE, NO_VALUE);
    }
    spans("all backwards", s, 0, block(7, 7, 7, -7, -7, -7), NO_VALUE, NO_VALUE);
  }

  private static void spanOfNoPoints() {
    SignSolids s = Check.with("ball 0 0 0 1");
    int[] room = {-7, -7, -7, 7, 7, 7};
    for (int i = 0; i < 6; i++) {
      for (int off : Check.outside(-7, 7)) {
        int[] at = room.clone();
        at[i] = off;
        spans("number " + i + " " + off, s, 0, at, NO_VALUE, NO_VALUE);
      }
    }
    spans("a block beyond the room", s, 0, block(8, 0, 0, 8, 0, 0), NO_VALUE, NO_VALUE);
    spans("a block below the room", s, 0, block(0, 0, -9, 0, 0, -8), NO_VALUE, NO_VALUE);
    spans("all whole numbers", s, 0, block(MIN, MIN, MIN, MAX, MAX, MAX), NO_VALUE, NO_VALUE);
  }

  private static void spanOfNoBody() {
    SignSolids s = Check.with("ball 0 0 0 1");
    for (int b : Check.noBodies(1)) {
      spans("body " + b, s, b, block(0, 0, 0, 0, 0, 0), NO_VALUE, NO_VALUE);
    }
  }

  // ---- promise 9

  private static void partings(String text, int... want) {
    SignSolids s = Check.with(text);
    for (int i = 0; i < 5; i++) {
      due(text + ", " + i, s.parted(0, i), want[i]);
    }
  }

  private static void sureByTheHigh() {
    // High -1 over the room is sure; with high 0 it is parted, down to the layer x = 7 that is without.
    partings("plane 1 0 0 8", 1, 1, 3375, 0, 1);
    partings("plane 1 0 0 7", 4 + 16 + 128, 4 + 16 + 64, 3375 - 225, 3, 1 + 8 + 32 + 128);
  }

  private static void sureByTheLow() {
    // Low 0 over the room is sure; with low -1 it is parted, down to the points of -7 and -6.
    partings("plane 1 0 0 -7", 1, 0, 0, 0, 1);
    partings("plane 1 0 0 -6", 4 + 16 + 64 + 450, 225, 225, 4, 1 + 8 + 32 + 128 + 450);
  }

  private static void sureAtOnePoint() {
    partings("box 0 0 0 0 0 0", 29, 1, 1, 4, 33);
    // 7 is a part of its own one step sooner: 1 to 7, 5 to 7, 7.
    partings("box 7 7 7 7 7 7", 7 + 7 + 8, 1, 1, 3, 1 + 8 + 8 + 8);
    partings("box -7 -7 -7 -7 -7 -7", 29, 1, 1, 4, 33);
    // The spans of single points alone tell that nothing is within: x + 6 and -x - 7 are never both below 0.
    partings("and plane 1 0 0 -6 plane -1 0 0 7", 4 + 16 + 64 + 450, 0, 0, 4, 1 + 8 + 32 + 128 + 450);
  }

  private static void partedInTwos() {
    // The lower part of -7 to 7 ends with 0, so that x below 1 is sure in one step.
    partings("plane 1 0 0 1", 8, 4, 8 * 225, 1, 9);
    partings("plane 0 1 0 1", 8, 4, 8 * 225, 1, 9);
    partings("plane 0 0 1 1", 8, 4, 8 * 225, 1, 9);
    // That of 1 to 7 ends with 4.
    partings("plane 1 0 0 5", 4 + 32, 4 + 16, 12 * 225, 2, 1 + 8 + 32);
    // That of -7 to 0 ends with -4.
    partings("plane 1 0 0 -3", 4 + 32, 16, 4 * 225, 2, 1 + 8 + 32);
    // That of 5 to 7 ends with 6.
    partings("plane 0 0 1 7", 4 + 16 + 128, 4 + 16 + 64, 14 * 225, 3, 1 + 8 + 32 + 128);
    // The last block of 7 and 7 in y and z has x alone to part, so that it has two parts.
    partings("box -7 7 7 -7 7 7", 7 + 7 + 7 + 2, 1, 1, 4, 1 + 8 + 8 + 8 + 2);
    partings("box 7 -7 7 7 -7 7", 7 + 7 + 7 + 2, 1, 1, 4, 1 + 8 + 8 + 8 + 2);
    partings("box 7 7 -7 7 7 -7", 7 + 7 + 7 + 2, 1, 1, 4, 1 + 8 + 8 + 8 + 2);
    // With z alone at 7 it has four.
    partings("box -7 -7 7 -7 -7 7", 7 + 7 + 7 + 4, 1, 1, 4, 1 + 8 + 8 + 8 + 4);
    partings("box -7 7 -7 -7 7 -7", 7 + 7 + 7 + 4, 1, 1, 4, 1 + 8 + 8 + 8 + 4);
    partings("box 7 -7 -7 7 -7 -7", 7 + 7 + 7 + 4, 1, 1, 4, 1 + 8 + 8 + 8 + 4);
  }

  private static void theRoomAlone() {
    partings(Check.ALL, 1, 1, 3375, 0, 1);
    partings(Check.NOTHING, 1, 0, 0, 0, 1);
    partings("box -20 -20 -20 20 20 20", 1, 1, 3375, 0, 1);
    partings("box 8 8 8 9 9 9", 1, 0, 0, 0, 1);
  }

  private static void partedBad() {
    SignSolids s = Check.with(Check.ONE_POINT);
    for (int what : Check.outside(0, 4)) {
      due("what " + what, s.parted(0, what), BAD);
    }
    for (int b : Check.noBodies(1)) {
      for (int what = 0; what < 5; what++) {
        due("body " + b, s.parted(b, what), BAD);
      }
    }
    due("what 4", s.parted(0, 4), 33);
  }
}
