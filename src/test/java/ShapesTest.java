/** Promises 15 to 19: slices, thin walls, overhangs, two bodies compared, and rays. */
public final class ShapesTest {
  private static final int BAD = Check.BAD, NONE = Check.NONE;
  private static final String ONE_POINT = Check.ONE_POINT, NOTHING = Check.NOTHING, ALL = Check.ALL;
  private static final String BEYOND = "box -20 -20 -20 20 20 20";

  public static void main(String[] args) {
    Check.sentence("promise 15", "The slice at z: 0 POINTS WITHIN", ShapesTest::sliceSizes);
    Check.sentence("promise 15", "1 the length of its outline (SIDES in x, y that are not WITHIN)", ShapesTest::outlines);
    Check.sentence("promise 15", "2 pieces that hang together by SIDES in x, y.", ShapesTest::pieces);
    Check.sentence("promise 15", "BAD.", ShapesTest::sliceBad);

    Check.sentence("promise 16", "POINTS WITHIN of which in a direction (0 x, 1 y, 2 z) both SIDES are not WITHIN: how"
        + " many.", ShapesTest::thinWalls);
    Check.sentence("promise 16", "both SIDES are not WITHIN", ShapesTest::thinAtTheEnd);
    Check.sentence("promise 16", "BAD.", ShapesTest::thinBad);

    Check.sentence("promise 17", "POINTS WITHIN above z (-7 to 7) whose SIDE below (z less 1) is not WITHIN: how many.",
        ShapesTest::overhangs);
    Check.sentence("promise 17", "POINTS WITHIN above z (-7 to 7)", ShapesTest::overhangsAboveZ);
    Check.sentence("promise 17", "BAD.", ShapesTest::overhangBad);

    Check.sentence("promise 18", "Two BODIES by POINTS: 0 how many are WITHIN both, 1 WITHIN the first alone, 2 the"
        + " second alone", ShapesTest::bothCounted);
    Check.sentence("promise 18", "3 whether none but those of the first are WITHIN the second (1, 0).",
        ShapesTest::secondInFirst);
    Check.sentence("promise 18", "BAD.", ShapesTest::bothBad);

    Check.sentence("promise 19", "The first POINT WITHIN from x, y, z on (itself too)", ShapesTest::raysThatMeet);
    Check.sentence("promise 19", "by steps (-3 to 3 each, not all 0): how many steps.", ShapesTest::stepsUpTo3);
    Check.sentence("promise 19", "by steps (-3 to 3 each, not all 0): how many steps. BAD", ShapesTest::stepsBad);
    Check.sentence("promise 19", "BAD; NONE: none up to the end of THE ROOM.", ShapesTest::raysThatEnd);
    Check.sentence("promise 19", "BAD; NONE: none up to the end of THE ROOM.", ShapesTest::rayBad);
    Check.finish("ShapesTest");
  }

  private static void due(String call, int got, int want) {
    Check.due(call, got, want);
  }

  // ---- promise 15

  private static void sliceSizes() {
    SignSolids s = Check.with("or box 0 0 0 1 2 3 box 2 3 0 2 3 0", BEYOND, NOTHING, "box 0 0 -20 0 0 -7",
        "box 0 0 7 0 0 20");
    due("at 0", s.slice(0, 0, 0), 7);
    due("at its highest", s.slice(0, 3, 0), 6);
    due("above it", s.slice(0, 4, 0), 0);
    due("below it", s.slice(0, -1, 0), 0);
    for (int z = -7; z <= 7; z++) {
      due("all at " + z, s.slice(1, z, 0), 225);
      due("nothing at " + z, s.slice(2, z, 0), 0);
      due("the lowest at " + z, s.slice(3, z, 0), z == -7 ? 1 : 0);
      due("the highest at " + z, s.slice(4, z, 0), z == 7 ? 1 : 0);
    }
  }

  private static void outlines() {
    SignSolids s = Check.with("or box 0 0 0 1 2 3 box 2 3 0 2 3 0", BEYOND, "box 0 0 0 0 0 1",
        "less box -2 -2 -2 2 2 2 ball 0 0 0 1", NOTHING);
    due("two pieces", s.slice(0, 0, 1), 14);
    due("one piece", s.slice(0, 3, 1), 10);
    due("none", s.slice(0, 4, 1), 0);
    // What is not in the room is not within.
    for (int z : new int[] {-7, 0, 7}) {
      due("the room's ends at " + z, s.slice(1, z, 1), 60);
    }
    due("sides in z do not count", s.slice(2, 1, 1), 4);
    due("nor there", s.slice(2, 0, 1), 4);
    due("round a hole too", s.slice(3, 0, 1), 20 + 12);
    due("nothing", s.slice(4, 0, 1), 0);
    String[] corners = {"-7 -7", "7 -7", "-7 7", "7 7"};
    for (String at : corners) {
      due("a corner of the room", Check.with("box " + at + " 0 " + at + " 0").slice(0, 0, 1), 4);
    }
  }

  private static void pieces() {
    SignSolids s = Check.with("or box 0 0 0 1 2 3 box 2 3 0 2 3 0", "less box -2 -2 -2 2 2 2 ball 0 0 0 1",
        "or box -3 0 0 -3 0 1 or box 3 0 0 3 0 1 box -3 0 1 3 0 1", "box 0 -7 -7 0 -7 -7", "box 7 7 7 7 7 7",
        "rep 2 turn rep 2 turn rep 2 box 1 1 1 1 1 1", NOTHING, ALL);
    due("two by a corner", s.slice(0, 0, 2), 2);
    due("one", s.slice(0, 3, 2), 1);
    due("none", s.slice(0, -7, 2), 0);
    due("a ring", s.slice(1, 0, 2), 1);
    due("two that hang together by z alone", s.slice(2, 0, 2), 2);
    due("one in the slice above", s.slice(2, 1, 2), 1);
    due("one in the first row of all", s.slice(3, -7, 2), 1);
    due("one in the last row of all", s.slice(4, 7, 2), 1);
    due("64 points apart", s.slice(5, 7, 2), 64);
    due("no points between", s.slice(5, 6, 2), 0);
    due("nothing", s.slice(6, 0, 2), 0);
    due("all", s.slice(7, 7, 2), 1);
    SignSolids arms = Check.with("or box -3 5 0 3 5 0 or box -3 0 0 -3 5 0 box 3 0 0 3 5 0",
        "or box 5 -3 0 5 3 0 or box 0 -3 0 5 -3 0 box 0 3 0 5 3 0", "box -7 0 0 7 0 0", "box 0 -7 0 0 7 0");
    due("two arms that come together at the greatest y", arms.slice(0, 0, 2), 1);
    due("two arms that come together at the greatest x", arms.slice(1, 0, 2), 1);
    due("from end to end in x", arms.slice(2, 0, 2), 1);
    due("from end to end in y", arms.slice(3, 0, 2), 1);
  }

  private static void sliceBad() {
    SignSolids s = Check.with(BEYOND);
    for (int what = 0; what < 3; what++) {
      for (int z : Check.outside(-7, 7)) {
        due("z " + z, s.slice(0, z, what), BAD);
      }
      for (int b : Check.noBodies(1)) {
        due("body " + b, s.slice(b, 0, what), BAD);
      }
    }
    for (int what : Check.outside(0, 2)) {
      due("what " + what, s.slice(0, 0, what), BAD);
    }
  }

  // ---- promise 16

  private static void thins(String text, int... want) {
    SignSolids s = Check.with(text);
    for (int way = 0; way < 3; way++) {
      due("thin of '" + text + "', " + way, s.thin(0, way), want[way]);
    }
  }

  private static void thinWalls() {
    thins(NOTHING, 0, 0, 0);
    thins(ONE_POINT, 1, 1, 1);
    thins("box 0 0 0 0 1 2", 6, 0, 0);
    thins("box 0 0 0 1 0 2", 0, 6, 0);
    thins("box 0 0 0 1 2 0", 0, 0, 6);
    // One of both sides within is enough not to be thin.
    thins("box 0 0 0 1 0 0", 0, 2, 2);
    thins("box 0 0 0 0 1 0", 2, 0, 2);
    thins("box 0 0 0 0 0 1", 2, 2, 0);
    thins("or box 0 0 0 0 0 0 box 1 1 1 1 1 1", 2, 2, 2);
  }

  private static void thinAtTheEnd() {
    thins(BEYOND, 0, 0, 0);
    // The body as it is stands at the end of x; turned, at that of y; turned twice, at that of z.
    String[] turns = {"", "turn ", "turn turn "};
    for (int k = 0; k < 3; k++) {
      int[] want = new int[3];
      want[k] = 225;
      thins(turns[k] + "box 7 -20 -20 20 20 20", want);
      thins(turns[k] + "box -20 -20 -20 -7 20 20", want);
      thins(turns[k] + "box 6 -20 -20 20 20 20", 0, 0, 0);
      thins(turns[k] + "box -20 -20 -20 -6 20 20", 0, 0, 0);
    }
  }

  private static void thinBad() {
    SignSolids s = Check.with(ONE_POINT);
    for (int way : Check.outside(0, 2)) {
      due("way " + way, s.thin(0, way), BAD);
    }
    for (int b : Check.noBodies(1)) {
      for (int way = 0; way < 3; way++) {
        due("body " + b, s.thin(b, way), BAD);
      }
    }
  }

  // ---- promise 17

  private static void overhangs() {
    SignSolids s = Check.with("or box 0 0 -7 0 0 3 box -2 0 3 2 0 4", BEYOND, "box 0 0 -3 1 0 0", NOTHING,
        "or box 0 0 -6 0 0 -6 box 0 0 -4 0 0 -4");
    due("arms alone", s.overhang(0, -7), 4);
    due("all", s.overhang(1, -7), 0);
    due("what floats", s.overhang(2, -7), 2);
    due("nothing", s.overhang(3, -7), 0);
    due("each of two with a gap", s.overhang(4, -7), 2);
  }

  private static void overhangsAboveZ() {
    SignSolids s = Check.with("box 0 0 -3 1 0 0", "box -20 -20 7 20 20 20", "box -20 -20 -20 20 20 -7",
        "box 0 0 -6 0 0 -6");
    for (int z = -7; z <= 7; z++) {
      due("from -3 on, above " + z, s.overhang(0, z), z < -3 ? 2 : 0);
      due("at 7, above " + z, s.overhang(1, z), z < 7 ? 225 : 0);
      // The lowest layer is never above z.
      due("at -7, above " + z, s.overhang(2, z), 0);
      due("at -6, above " + z, s.overhang(3, z), z == -7 ? 1 : 0);
    }
  }

  private static void overhangBad() {
    SignSolids s = Check.with("box 0 0 -7 0 0 -7");
    for (int z : Check.outside(-7, 7)) {
      due("z " + z, s.overhang(0, z), BAD);
    }
    for (int b : Check.noBodies(1)) {
      due("body " + b, s.overhang(b, 0), BAD);
    }
  }

  // ---- promise 18

  private static void compared(SignSolids s, int a, int b, int... want) {
    for (int k = 0; k < want.length; k++) {
      due("both(" + a + ", " + b + ", " + k + ")", s.both(a, b, k), want[k]);
    }
  }

  private static void bothCounted() {
    SignSolids s = Check.with("box 0 0 0 3 0 0", "box 2 0 0 4 0 0", NOTHING, ALL, BEYOND);
    compared(s, 0, 1, 2, 2, 1);
    compared(s, 1, 0, 2, 1, 2);
    compared(s, 0, 0, 4, 0, 0);
    compared(s, 0, 2, 0, 4, 0);
    compared(s, 2, 0, 0, 0, 4);
    compared(s, 2, 2, 0, 0, 0);
    compared(s, 3, 0, 4, 3371, 0);
    // What is beyond the room does not count.
    compared(s, 3, 4, 3375, 0, 0);
    compared(s, 4, 2, 0, 3375, 0);
  }

  private static void secondInFirst() {
    SignSolids s = Check.with("box 0 0 0 3 0 0", "box 1 0 0 2 0 0", "box 3 0 0 4 0 0", NOTHING, ALL, BEYOND,
        "box 0 0 0 3 0 0");
    int[][] pairs = {{0, 1, 1}, {1, 0, 0}, {0, 2, 0}, {2, 0, 0}, {0, 0, 1}, {0, 6, 1}, {6, 0, 1}, {0, 3, 1}, {3, 0, 0},
      {3, 3, 1}, {4, 5, 1}, {5, 4, 1}, {4, 0, 1}, {0, 4, 0}};
    for (int[] p : pairs) {
      due("both(" + p[0] + ", " + p[1] + ", 3)", s.both(p[0], p[1], 3), p[2]);
    }
  }

  private static void bothBad() {
    SignSolids s = Check.with(ONE_POINT, ALL);
    for (int what : Check.outside(0, 3)) {
      due("what " + what, s.both(0, 1, what), BAD);
    }
    for (int b : Check.noBodies(2)) {
      for (int what = 0; what < 4; what++) {
        due("first " + b, s.both(b, 0, what), BAD);
        due("second " + b, s.both(0, b, what), BAD);
        due("both " + b, s.both(b, b, what), BAD);
      }
    }
  }

  // ---- promise 19

  private static void raysThatMeet() {
    SignSolids s = Check.with("or box 7 7 7 7 7 7 box 2 0 0 2 0 0", BEYOND, "or box 1 0 0 1 0 0 box 3 0 0 5 0 0");
    due("itself", s.ray(0, 2, 0, 0, -1, 2, 3), 0);
    due("itself at the end of the room", s.ray(0, 7, 7, 7, 1, 1, 1), 0);
    due("itself everywhere", s.ray(1, -7, 0, 7, 3, 3, 3), 0);
    due("one step", s.ray(0, -1, 2, 3, 3, -2, -3), 1);
    due("two steps", s.ray(0, 0, 0, 0, 1, 0, 0), 2);
    due("the first of two", s.ray(2, -1, 0, 0, 1, 0, 0), 2);
    due("the first of two from behind", s.ray(2, 7, 0, 0, -1, 0, 0), 2);
    due("the most steps", s.ray(0, -7, -7, -7, 1, 1, 1), 14);
    due("seven steps", s.ray(0, -7, 0, 7, 2, 1, 0), 7);
  }

  private static void stepsUpTo3() {
    SignSolids s = Check.with("or box 5 0 0 5 0 0 or box 0 5 0 0 5 0 box 0 0 5 0 0 5",
        "or box -5 0 0 -5 0 0 or box 0 -5 0 0 -5 0 box 0 0 -5 0 0 -5");
    for (int step : new int[] {1, 2, 3}) {
      int from = 5 - 3 * step;
      due("u " + step, s.ray(0, from, 0, 0, step, 0, 0), 3);
      due("v " + step, s.ray(0, 0, from, 0, 0, step, 0), 3);
      due("w " + step, s.ray(0, 0, 0, from, 0, 0, step), 3);
      due("u " + -step, s.ray(1, -from, 0, 0, -step, 0, 0), 3);
      due("v " + -step, s.ray(1, 0, -from, 0, 0, -step, 0), 3);
      due("w " + -step, s.ray(1, 0, 0, -from, 0, 0, -step), 3);
    }
  }

  private static void stepsBad() {
    SignSolids s = Check.with(BEYOND, NOTHING);
    for (int b = 0; b < 2; b++) {
      due("no step", s.ray(b, 0, 0, 0, 0, 0, 0), BAD);
      for (int step : Check.outside(-3, 3)) {
        due("u " + step, s.ray(b, 0, 0, 0, step, 1, 1), BAD);
        due("v " + step, s.ray(b, 0, 0, 0, 1, step, 1), BAD);
        due("w " + step, s.ray(b, 0, 0, 0, 1, 1, step), BAD);
      }
    }
  }

  private static void raysThatEnd() {
    SignSolids s = Check.with("box 2 0 0 2 0 0", "or plane 1 0 0 -7 plane -1 0 0 -7", NOTHING, "box 7 0 0 7 0 0",
        "box -7 0 0 -7 0 0");
    due("over it", s.ray(0, 1, 0, 0, 3, 0, 0), NONE);
    due("away from it", s.ray(0, 1, 0, 0, -1, 0, 0), NONE);
    due("beside it", s.ray(0, -7, 1, 0, 1, 0, 0), NONE);
    // That body has all that is beyond -7 and 7 in x, and nothing in the room.
    due("beyond 7", s.ray(1, 0, 0, 0, 1, 0, 0), NONE);
    due("beyond -7", s.ray(1, 0, 0, 0, -3, 0, 0), NONE);
    due("right at the end", s.ray(1, 7, 0, 0, 1, 0, 0), NONE);
    due("nothing", s.ray(2, -7, -7, -7, 1, 1, 1), NONE);
    due("up to 7", s.ray(3, -7, 0, 0, 1, 0, 0), 14);
    due("up to 7 by 2", s.ray(3, -7, 0, 0, 2, 0, 0), 7);
    due("past 7 by 3", s.ray(3, -7, 0, 0, 3, 0, 0), NONE);
    due("up to -7", s.ray(4, 7, 0, 0, -1, 0, 0), 14);
    due("up to -7 by 2", s.ray(4, 7, 0, 0, -2, 0, 0), 7);
    due("past -7 by 3", s.ray(4, 7, 0, 0, -3, 0, 0), NONE);
  }

  private static void rayBad() {
    SignSolids s = Check.with(BEYOND);
    for (int c : Check.outside(-7, 7)) {
      // The way into the room does not make a place outside of it a point.
      int back = c < 0 ? 1 : -1;
      due("x " + c, s.ray(0, c, 0, 0, back, 0, 0), BAD);
      due("y " + c, s.ray(0, 0, c, 0, 0, back, 0), BAD);
      due("z " + c, s.ray(0, 0, 0, c, 0, 0, back), BAD);
    }
    for (int b : Check.noBodies(1)) {
      due("body " + b, s.ray(b, 0, 0, 0, 1, 0, 0), BAD);
    }
  }
}
