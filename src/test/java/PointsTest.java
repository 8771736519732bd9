/** Promises 10 to 14: points within, the skin, parts and hollows. */
public final class PointsTest {
  private static final int BAD = Check.BAD, NONE = Check.NONE, NO_POINT = Check.NO_POINT;
  private static final String ONE_POINT = Check.ONE_POINT, NOTHING = Check.NOTHING, ALL = Check.ALL;
  private static final String EDGES = "1 unlike EDGES, 2 unlike CORNERS, 3 EDGES that are of four SQUARES.";
  private static final String HOLLOWS = "HOLLOWS: POINTS of THE ROOM that are not WITHIN and hang together by SIDES,"
      + " none of them at the end of THE ROOM (a number -7 or 7).";

  public static void main(String[] args) {
    Check.sentence("promise 10, Terms", "a POINT is WITHIN, if it is below 0 there.", PointsTest::noughtIsNotWithin);
    Check.sentence("promise 10, Terms", "POINTS have three whole numbers x, y, z, each -7 to 7 (THE ROOM: 3375 of them).",
        PointsTest::theRoomEnds);
    Check.sentence("promise 10", "How many POINTS are WITHIN.", PointsTest::volumes);
    Check.sentence("promise 10", "BAD.", PointsTest::volumeBad);

    Check.sentence("promise 11", "x, y, z (what 0 to 2) of the POINT WITHIN number i (by z, then y, then x, the least"
        + " first).", PointsTest::pointsInOrder);
    Check.sentence("promise 11", "BAD -100: also there is none such.", PointsTest::noSuchPoint);
    Check.sentence("promise 11", "BAD -100: also there is none such.", PointsTest::pointBad);

    Check.sentence("promise 12, Terms", "A SQUARE of the skin: a POINT WITHIN with a SIDE that is not WITHIN, or not in"
        + " THE ROOM.", PointsTest::squaresAtTheEnd);
    Check.sentence("promise 12", "The skin: 0 SQUARES", PointsTest::skinOfFewAndAll);
    Check.sentence("promise 12", EDGES, PointsTest::skinsThatTouch);
    Check.sentence("promise 12", EDGES, PointsTest::edgesOfFour);
    Check.sentence("promise 12", "BAD.", PointsTest::skinBad);

    Check.sentence("promise 13, Terms", "PARTS: POINTS WITHIN that hang together by SIDES", PointsTest::partsBySides);
    Check.sentence("promise 13, Terms", HOLLOWS, PointsTest::hollowsAtTheEnd);
    Check.sentence("promise 13, Terms", HOLLOWS, PointsTest::hollowsBySides);
    Check.sentence("promise 13", "How many PARTS (what 0), HOLLOWS (1), POINTS in the greatest PART (2), in all HOLLOWS"
        + " (3).", PointsTest::noPartsAndMany);
    Check.sentence("promise 13", "BAD.", PointsTest::partsBad);

    Check.sentence("promise 14, Terms", "they are numbered by their least POINTS (by z, then y, then x).",
        PointsTest::partsAreNumbered);
    Check.sentence("promise 14", "The PART of a POINT.", PointsTest::firstAndLastPart);
    Check.sentence("promise 14", "BAD; NONE: it is not WITHIN.", PointsTest::partOfNoPoint);
    Check.sentence("promise 14", "BAD; NONE: it is not WITHIN.", PointsTest::partNotWithin);
    Check.finish("PointsTest");
  }

  private static void due(String call, int got, int want) {
    Check.due(call, got, want);
  }

  // ---- promise 10

  private static void volumeOf(String text, int want) {
    SignSolids s = Check.with(text);
    due("volume of '" + text + "'", s.volume(0), want);
    due("volume of '" + text + "' again", s.volume(0), want);
  }

  private static void noughtIsNotWithin() {
    volumeOf("plane 0 0 0 0", 0);
    volumeOf("plane 0 0 0 1", 3375);
    volumeOf("plane 0 0 0 -1", 0);
    volumeOf("ball 0 0 0 0", 0);
    volumeOf("ball 0 0 0 1", 1);
    volumeOf("ball 0 0 0 2", 27);
    volumeOf("plane 1 0 0 0", 7 * 225);
  }

  private static void theRoomEnds() {
    volumeOf("box -7 -7 -7 7 7 7", 3375);
    volumeOf("box -20 -20 -20 20 20 20", 3375);
    volumeOf("box 7 7 7 20 20 20", 1);
    volumeOf("box -20 -20 -20 -7 -7 -7", 1);
    String[] turns = {"", "turn ", "turn turn "};
    for (String turned : turns) {
      volumeOf(turned + "box 7 -20 -20 20 20 20", 225);
      volumeOf(turned + "box 8 -20 -20 20 20 20", 0);
      volumeOf(turned + "box -20 -20 -20 -7 20 20", 225);
      volumeOf(turned + "box -20 -20 -20 -8 20 20", 0);
    }
  }

  private static void volumes() {
    volumeOf(NOTHING, 0);
    volumeOf(ONE_POINT, 1);
    volumeOf(ALL, 3375);
    volumeOf("box -1 -2 -3 1 2 3", 3 * 5 * 7);
    volumeOf("ball 0 0 0 3", 93);
  }

  private static void volumeBad() {
    SignSolids s = Check.with(ALL, ONE_POINT);
    for (int b : Check.noBodies(2)) {
      due("volume of " + b, s.volume(b), BAD);
    }
    s.drop();
    due("volume of one that has gone", s.volume(1), BAD);
    due("volume with no bodies", new SignSolids().volume(0), BAD);
  }

  // ---- promise 11

  private static void pointsInOrder() {
    SignSolids s = Check.with("box -1 2 -3 1 3 -2", ALL, "rep 3 box 1 -7 7 1 -7 7");
    int i = 0;
    for (int z = -3; z <= -2; z++) {
      for (int y = 2; y <= 3; y++) {
        for (int x = -1; x <= 1; x++, i++) {
          due("x of " + i, s.point(0, i, 0), x);
          due("y of " + i, s.point(0, i, 1), y);
          due("z of " + i, s.point(0, i, 2), z);
        }
      }
    }
    for (int what = 0; what < 3; what++) {
      due("the first of all", s.point(1, 0, what), -7);
      due("the middle of all", s.point(1, 1687, what), 0);
      due("the last of all", s.point(1, 3374, what), 7);
    }
    int[] xs = {-5, -2, 1, 4, 7};
    for (int k = 0; k < 5; k++) {
      due("in a row with gaps", s.point(2, k, 0), xs[k]);
    }
  }

  private static void noSuchPoint() {
    SignSolids s = Check.with(ONE_POINT, NOTHING, ALL, "rep 3 box 1 -7 7 1 -7 7");
    int[] sizes = {1, 0, 3375, 5};
    for (int b = 0; b < sizes.length; b++) {
      for (int i : Check.outside(0, sizes[b] - 1)) {
        for (int what = 0; what < 3; what++) {
          due("point " + i + " of " + b, s.point(b, i, what), NO_POINT);
        }
      }
    }
  }

  private static void pointBad() {
    SignSolids s = Check.with(ONE_POINT);
    for (int what : Check.outside(0, 2)) {
      due("what " + what, s.point(0, 0, what), NO_POINT);
    }
    for (int b : Check.noBodies(1)) {
      due("body " + b, s.point(b, 0, 0), NO_POINT);
    }
  }

  // ---- promise 12

  private static void skins(String text, int... want) {
    SignSolids s = Check.with(text);
    for (int i = 0; i < 4; i++) {
      due("skin of '" + text + "', " + i, s.skin(0, i), want[i]);
    }
  }

  private static void squaresAtTheEnd() {
    // Rules go on beyond the room, the skin does not.
    skins("box -20 -20 -20 20 20 20", 1350, 2700, 1352, 0);
    skins("plane 0 0 0 1", 1350, 2700, 1352, 0);
    for (String at : new String[] {"-7 -7 -7", "7 -7 -7", "-7 7 -7", "7 7 -7", "-7 -7 7", "7 -7 7", "-7 7 7", "7 7 7"}) {
      skins("box " + at + " " + at, 6, 12, 8, 0);
    }
  }

  private static void skinOfFewAndAll() {
    skins(NOTHING, 0, 0, 0, 0);
    skins(ONE_POINT, 6, 12, 8, 0);
    skins(ALL, 1350, 2700, 1352, 0);
    skins("less box -1 -1 -1 1 1 1 ball 0 0 0 0", 60, 120, 64, 0);
    skins("less box -7 -7 -7 7 7 7 ball 7 7 7 0", 1350, 2700, 1352, 0);
  }

  private static void skinsThatTouch() {
    skins("box 0 0 0 1 0 0", 10, 20, 12, 0);
    skins("box 0 0 0 0 1 0", 10, 20, 12, 0);
    skins("box 0 0 0 0 0 1", 10, 20, 12, 0);
    skins("or box 0 0 0 0 0 0 box 1 1 1 1 1 1", 12, 24, 15, 0);
    skins("or box 0 0 0 0 0 0 box 2 0 0 2 0 0", 12, 24, 16, 0);
    // Two hollows that touch by a corner have it once.
    skins("less box -7 -7 -7 7 7 7 or ball 0 0 0 0 ball 1 1 1 0", 1350 + 12, 2700 + 24, 1352 + 15, 0);
  }

  private static void edgesOfFour() {
    skins("or box 0 0 0 0 0 0 box 1 1 0 1 1 0", 12, 23, 14, 1);
    skins("or box 0 0 0 0 0 0 box 0 1 1 0 1 1", 12, 23, 14, 1);
    skins("or box 0 0 0 0 0 0 box 1 0 -1 1 0 -1", 12, 23, 14, 1);
    skins("or box 0 0 0 0 0 0 box -1 1 0 -1 1 0", 12, 23, 14, 1);
    skins("or box 7 7 7 7 7 7 box 6 6 7 6 6 7", 12, 23, 14, 1);
    skins("or box -7 -7 -7 -7 -7 -7 box -7 -6 -6 -7 -6 -6", 12, 23, 14, 1);
    // Four of eight points, each by an edge with the three others: six edges, all of them at one corner.
    skins("or box 0 0 0 0 0 0 or box 1 1 0 1 1 0 or box 1 0 1 1 0 1 box 0 1 1 0 1 1", 24, 42, 23, 6);
    // Columns of 4 and 2 points along one line: two of its edges are of four squares.
    skins("or box 0 0 0 0 0 3 box 1 1 1 1 1 2", 18 + 10, 36 + 20 - 2, 20 + 12 - 3, 2);
    skins("less box -7 -7 -7 7 7 7 or ball 0 0 0 0 ball 1 1 0 0", 1350 + 12, 2700 + 23, 1352 + 14, 1);
  }

  private static void skinBad() {
    SignSolids s = Check.with(ONE_POINT);
    for (int what : Check.outside(0, 3)) {
      due("what " + what, s.skin(0, what), BAD);
    }
    for (int b : Check.noBodies(1)) {
      for (int what = 0; what < 4; what++) {
        due("body " + b, s.skin(b, what), BAD);
      }
    }
  }

  // ---- promise 13

  private static void parts(String text, int... want) {
    SignSolids s = Check.with(text);
    for (int what = 0; what < 4; what++) {
      due("parts of '" + text + "', " + what, s.parts(0, what), want[what]);
    }
  }

  private static void partsBySides() {
    parts("box 0 0 0 1 0 0", 1, 0, 2, 0);
    parts("box 0 0 0 0 1 0", 1, 0, 2, 0);
    parts("box 0 0 0 0 0 1", 1, 0, 2, 0);
    parts("or box 0 0 0 0 0 0 box 1 1 0 1 1 0", 2, 0, 1, 0);
    parts("or box 0 0 0 0 0 0 box 1 0 1 1 0 1", 2, 0, 1, 0);
    parts("or box 0 0 0 0 0 0 box 0 1 1 0 1 1", 2, 0, 1, 0);
    parts("or box 0 0 0 0 0 0 box 1 1 1 1 1 1", 2, 0, 1, 0);
    // From end to end of the room.
    parts("box -7 0 0 7 0 0", 1, 0, 15, 0);
    parts("box 0 -7 0 0 7 0", 1, 0, 15, 0);
    parts("box 0 0 -7 0 0 7", 1, 0, 15, 0);
    // Two arms that come together at their far ends alone, along each of the three ways and from both sides.
    for (String turned : new String[] {"", "turn ", "turn turn "}) {
      for (String flipped : new String[] {"", "flip "}) {
        parts(turned + flipped + "or box 5 -3 0 5 3 0 or box 0 -3 0 5 -3 0 box 0 3 0 5 3 0", 1, 0, 7 + 5 + 5, 0);
        parts(turned + flipped + "or box 5 0 -3 5 0 3 or box 0 0 -3 5 0 -3 box 0 0 3 5 0 3", 1, 0, 7 + 5 + 5, 0);
        parts(turned + flipped + "or box 0 -3 0 5 -3 0 box 0 3 0 5 3 0", 2, 0, 6, 0);
      }
    }
    // The room has no way round: what stands at two ends of a row does not hang together.
    parts("or box -7 0 0 -7 0 0 box 7 0 0 7 0 0", 2, 0, 1, 0);
    parts("or box 7 0 0 7 0 0 box -7 1 0 -7 1 0", 2, 0, 1, 0);
    parts("or box 0 7 0 0 7 0 box 0 -7 1 0 -7 1", 2, 0, 1, 0);
  }

  private static void hollowsAtTheEnd() {
    String room = "less box -7 -7 -7 7 7 7 ";
    String[] ends = {"-7 0 0", "7 0 0", "0 -7 0", "0 7 0", "0 0 -7", "0 0 7"};
    String[] next = {"-6 0 0", "6 0 0", "0 -6 0", "0 6 0", "0 0 -6", "0 0 6"};
    for (int k = 0; k < 6; k++) {
      parts(room + "ball " + ends[k] + " 0", 1, 0, 3374, 0);
      parts(room + "ball " + next[k] + " 0", 1, 1, 3374, 1);
      parts(room + "or ball " + ends[k] + " 0 ball " + next[k] + " 0", 1, 0, 3373, 0);
    }
    parts(room + "ball 6 6 6 0", 1, 1, 3374, 1);
    parts(room + "ball -6 -6 -6 0", 1, 1, 3374, 1);
    parts(room + "ball 7 7 7 0", 1, 0, 3374, 0);
    // A way from the middle to the end of the room leaves no hollow.
    parts(room + "box 1 0 0 20 0 0", 1, 0, 3375 - 8 * 9, 0);
  }

  private static void hollowsBySides() {
    String room = "less box -7 -7 -7 7 7 7 ";
    parts(room + "or ball 0 0 0 0 ball 1 0 0 0", 1, 1, 3373, 2);
    parts(room + "or ball 0 0 0 0 ball 1 1 0 0", 1, 2, 3373, 2);
    parts(room + "or ball 6 6 6 0 ball 7 7 6 0", 1, 1, 3373, 1);
    parts("less box -3 -3 -3 3 3 3 or ball 0 0 0 0 or ball 1 0 0 0 ball -2 -2 -2 0", 1, 2, 343 - 3, 3);
    // A point in the hollow of a shell is a part, and no point of the hollow.
    parts("or box 0 0 0 0 0 0 less box -3 -3 -3 3 3 3 box -1 -1 -1 1 1 1", 2, 1, 343 - 125, 124);
  }

  private static void noPartsAndMany() {
    parts(NOTHING, 0, 0, 0, 0);
    parts(ONE_POINT, 1, 0, 1, 0);
    parts(ALL, 1, 0, 3375, 0);
    parts("or box -7 0 0 -6 0 0 box 0 0 0 2 0 0", 2, 0, 3, 0);
    parts("or box 0 0 0 2 0 0 box -7 0 0 -6 0 0", 2, 0, 3, 0);
    parts("or box 0 0 0 2 0 0 box -7 0 0 -5 0 0", 2, 0, 3, 0);
    parts("rep 2 turn rep 2 turn rep 2 box 1 1 1 1 1 1", 512, 0, 1, 0);
    parts("less box -7 -7 -7 7 7 7 rep 2 turn rep 2 turn rep 2 ball 0 0 0 0", 1, 343, 3375 - 343, 343);
  }

  private static void partsBad() {
    SignSolids s = Check.with(ONE_POINT);
    for (int what : Check.outside(0, 3)) {
      due("what " + what, s.parts(0, what), BAD);
    }
    for (int b : Check.noBodies(1)) {
      for (int what = 0; what < 4; what++) {
        due("body " + b, s.parts(b, what), BAD);
      }
    }
  }

  // ---- promise 14

  private static void partsAreNumbered() {
    SignSolids s = Check.with("or box 5 5 -5 5 5 -5 or box -5 -5 5 -5 -5 5 or box -1 3 0 -1 3 0 box 4 0 0 6 0 0",
        "or box 0 0 -2 0 0 -2 or box 5 0 -5 5 0 5 box 3 0 5 5 0 5", "rep 3 box 0 0 0 0 0 0");
    due("least z first", s.part(0, 5, 5, -5), 0);
    due("then least y", s.part(0, 4, 0, 0), 1);
    due("the same part", s.part(0, 6, 0, 0), 1);
    due("then the greater y", s.part(0, -1, 3, 0), 2);
    due("greatest z last", s.part(0, -5, -5, 5), 3);
    // A part goes by its least point, though the asked point lies above another part.
    due("by its least point", s.part(1, 3, 0, 5), 0);
    due("the other", s.part(1, 0, 0, -2), 1);
    for (int x = -6, k = 0; x <= 6; x += 3, k++) {
      due("then least x", s.part(2, x, 0, 0), k);
    }
  }

  private static void firstAndLastPart() {
    SignSolids s = Check.with("rep 2 turn rep 2 turn rep 2 box 1 1 1 1 1 1", ALL);
    due("the first of 512", s.part(0, -7, -7, -7), 0);
    due("the second", s.part(0, -5, -7, -7), 1);
    due("the next in y", s.part(0, -7, -5, -7), 8);
    due("the next in z", s.part(0, -7, -7, -5), 64);
    due("the last of 512", s.part(0, 7, 7, 7), 511);
    for (int c : new int[] {-7, 0, 7}) {
      due("the one of all", s.part(1, c, c, c), 0);
    }
  }

  private static void partOfNoPoint() {
    SignSolids s = Check.with("box -20 -20 -20 20 20 20");
    for (int c : Check.outside(-7, 7)) {
      due("x " + c, s.part(0, c, 0, 0), BAD);
      due("y " + c, s.part(0, 0, c, 0), BAD);
      due("z " + c, s.part(0, 0, 0, c), BAD);
    }
    for (int b : Check.noBodies(1)) {
      due("body " + b, s.part(b, 0, 0, 0), BAD);
    }
  }

  private static void partNotWithin() {
    SignSolids s = Check.with("rep 3 box 0 0 0 0 0 0", NOTHING, "plane 1 0 0 0");
    due("between parts", s.part(0, 1, 0, 0), NONE);
    due("behind the last", s.part(0, 7, 7, 7), NONE);
    due("of nothing", s.part(1, 0, 0, 0), NONE);
    due("where the rule is 0", s.part(2, 0, 0, 0), NONE);
    due("where the rule is -1", s.part(2, -1, 0, 0), 0);
  }
}
