/** Each promise of the document by answers that were worked out by hand. */
public final class PromisesTest {
  private static final int BAD = SignSolids.BAD, FULL = SignSolids.FULL, NONE = SignSolids.NONE;
  private static final int NO_VALUE = -1000000000, NO_POINT = -100;
  private static final int MIN = Integer.MIN_VALUE, MAX = Integer.MAX_VALUE;
  private static final String ONE_POINT = "box 0 0 0 0 0 0", NOTHING = "ball 0 0 0 0", ALL = "box -7 -7 -7 7 7 7";

  public static void main(String[] args) {
    newObject();
    feed();
    end();
    body();
    fault();
    drop();
    rule();
    span();
    parted();
    volume();
    point();
    skin();
    parts();
    part();
    slice();
    thin();
    overhang();
    both();
    ray();
    sheet();
    lay();
    scan();
    count();
    Check.finish("PromisesTest");
  }

  private static void due(String call, int got, int want) {
    Check.due(call, got, want);
  }

  // Promise 1
  private static void newObject() {
    SignSolids s = new SignSolids();
    due("1 bodies", s.count(0), 0);
    due("1 sheet 0", s.count(1), NONE);
    due("1 tape", s.count(2), 0);
    due("1 rules", s.count(3), NONE);
    due("1 fault", s.fault(), 0);
    due("1 drop", s.drop(), NONE);
    due("1 volume", s.volume(0), BAD);
    for (int k = 0; k < 4; k++) {
      due("1 lay", s.lay(k, 0, 1), -11);
    }
  }

  // Promise 2
  private static void feed() {
    SignSolids s = new SignSolids();
    for (int n = 8; n <= 160; n += 8) {
      due("2 feed", s.feed(0x2020202020202020L), n);
    }
    due("2 full", s.feed(0), FULL);
    due("2 full changes nothing", s.count(2), 160);
    due("2 all blanks, fault at the length", s.body(), -170);
    for (int n = 0; n < 20; n++) {
      s.feed(-1);
    }
    s.end(153);
    due("2 161 bytes", s.feed(0), FULL);
    s.end(152);
    due("2 160 bytes", s.feed(0), 160);

    SignSolids order = new SignSolids();
    order.feed(0x62616c6c20302030L);
    order.feed(0x2030203500000000L);
    order.end(12);
    due("2 highest byte first", order.body(), 0);
    due("2 ball 0 0 0 5", order.rule(0, 0, 0, 0), -25);
  }

  // Promise 3
  private static void end() {
    SignSolids s = new SignSolids();
    due("3 empty", s.end(0), 0);
    due("3 empty, 1", s.end(1), BAD);
    s.feed(1);
    s.feed(2);
    due("3 below 0", s.end(-1), BAD);
    due("3 more than there are", s.end(17), BAD);
    due("3 far", s.end(MAX), BAD);
    due("3 far below", s.end(MIN), BAD);
    due("3 refused changes nothing", s.count(2), 16);
    due("3 all", s.end(16), 16);
    due("3 nine", s.end(9), 16);
    due("3 nine are there", s.end(0), 9);
    due("3 none are there", s.count(2), 0);
    Check.lay(s, "ball 0 0 0 1 nonsense");
    s.end(12);
    due("3 what is behind is gone", s.body(), 0);
  }

  // Promise 4
  private static void body() {
    SignSolids s = new SignSolids();
    for (int b = 0; b < 8; b++) {
      due("4 body", Check.tell(s, ONE_POINT), b);
      due("4 the tape is empty", s.count(2), 0);
    }
    due("4 full ahead of a fault", Check.tell(s, "nonsense"), FULL);
    due("4 the tape stays", s.count(2), 8);
    due("4 still full", s.body(), FULL);
    s.drop();
    due("4 the fault's place", s.body(), -10);
    due("4 the tape is empty behind a fault", s.count(2), 0);
    due("4 no body by a fault", s.count(0), 7);
    due("4 again", Check.tell(s, NOTHING), 7);
    due("4 it is the new one", s.volume(7), 0);
  }

  // Promise 5
  private static void fault() {
    SignSolids s = new SignSolids();
    Check.tell(s, "x");
    due("5 one", s.fault(), 1);
    due("5 stays", s.fault(), 1);
    Check.tell(s, "5");
    due("5 two", s.fault(), 2);
    Check.tell(s, "rep 21");
    due("5 three", s.fault(), 3);
    Check.tell(s, "flip flip flip flip flip flip flip flip flip flip");
    due("5 four", s.fault(), 4);
    Check.tell(s, ONE_POINT);
    due("5 none", s.fault(), 0);
    for (int b = 1; b < 8; b++) {
      Check.tell(s, ONE_POINT);
    }
    s.drop();
    Check.tell(s, "box 0 0 0 0 0 -1");
    Check.tell(s, ONE_POINT);
    due("5 none again", s.fault(), 0);
    s.drop();
    Check.tell(s, "-");
    s.drop();
    due("5 drop leaves it", s.fault(), 1);
    Check.tell(s, ONE_POINT);
    Check.tell(s, ONE_POINT);
    due("5 full leaves it", Check.tell(s, "-"), FULL);
    due("5 still none", s.fault(), 0);
  }

  // Promise 6
  private static void drop() {
    SignSolids s = Check.with(ALL, ONE_POINT);
    due("6 latest", s.drop(), 1);
    due("6 it is gone", s.volume(1), BAD);
    due("6 the first stays", s.volume(0), 3375);
    due("6 first", s.drop(), 0);
    due("6 none", s.drop(), NONE);
    due("6 none", s.count(0), 0);
    due("6 numbers begin again", Check.tell(s, ONE_POINT), 0);
  }

  // Promise 7
  private static void rule() {
    SignSolids s = Check.with("ball 1 -2 3 4", "box -1 -2 -3 4 5 6", "plane 2 -3 5 7",
        "or ball 0 0 0 2 plane 1 0 0 0", "and ball 0 0 0 2 plane 1 0 0 0", "less ball 0 0 0 2 plane 1 0 0 0",
        "turn plane 1 2 3 0", "move 1 2 3 plane 20 1 3 0");
    due("7 ball", s.rule(0, 2, 0, 0), 1 + 4 + 9 - 16);
    due("7 ball, far", s.rule(0, -1000, 1000, 1000), 1001 * 1001 + 1002 * 1002 + 997 * 997 - 16);
    due("7 box, low x", s.rule(1, -4, 0, 0), 2);
    due("7 box, high x", s.rule(1, 10, 0, 0), 5);
    due("7 box, low y", s.rule(1, 0, -8, 0), 5);
    due("7 box, high y", s.rule(1, 0, 7, 0), 1);
    due("7 box, low z", s.rule(1, 0, 0, -7), 3);
    due("7 box, high z", s.rule(1, 0, 0, 1000), 993);
    due("7 box, within", s.rule(1, 2, 1, 1), -3);
    due("7 box, at its side", s.rule(1, 4, 1, 1), -1);
    due("7 plane", s.rule(2, 1, 2, 3), 2 - 6 + 15 - 7);
    due("7 or, ball less", s.rule(3, 1, 0, 0), -3);
    due("7 or, plane less", s.rule(3, -9, 0, 0), -9);
    due("7 and, plane greater", s.rule(4, 1, 0, 0), 1);
    due("7 and, ball greater", s.rule(4, -9, 0, 0), 77);
    due("7 less, second's sign", s.rule(5, -1, 0, 0), 1);
    due("7 less, first", s.rule(5, 1, 0, 0), -1);
    due("7 less, first greater", s.rule(5, 9, 0, 0), 77);
    due("7 turn", s.rule(6, 5, 10, 100), 10 + 200 + 15);
    due("7 move", s.rule(7, 5, 5, 5), 80 + 3 + 6);
    due("7 no body", s.rule(8, 0, 0, 0), NO_VALUE);
    due("7 body below 0", s.rule(-1, 0, 0, 0), NO_VALUE);
    due("7 edge", s.rule(2, 1000, -1000, 1000), 10000 - 7);
    due("7 x", s.rule(2, 1001, 0, 0), NO_VALUE);
    due("7 y", s.rule(2, 0, -1001, 0), NO_VALUE);
    due("7 z", s.rule(2, 0, 0, MIN), NO_VALUE);

    SignSolids more = Check.with("flip plane 3 1 0 0", "rep 5 plane 1 10 0 0", "rep 1 plane 1 10 0 0",
        "move 20 0 0 move 20 0 0 ball 20 0 0 1");
    due("7 flip", more.rule(0, 4, 1, 0), -11);
    due("7 rep", more.rule(1, 12, 1, 0), 12);
    due("7 rep below 0", more.rule(1, -1, 1, 0), 14);
    due("7 rep at -5", more.rule(1, -5, 1, 0), 10);
    due("7 rep 1", more.rule(2, -999, 1, 0), 10);
    due("7 moves", more.rule(3, -1000, 0, 0), 1060 * 1060 - 1);
  }

  private static void spans(String what, SignSolids s, int b, int[] at, int low, int high) {
    due("8 low of " + what, s.span(b, at[0], at[1], at[2], at[3], at[4], at[5], false), low);
    due("8 high of " + what, s.span(b, at[0], at[1], at[2], at[3], at[4], at[5], true), high);
  }

  private static int[] block(int... at) {
    return at;
  }

  // Promise 8
  private static void span() {
    SignSolids s = Check.with("ball 1 -2 3 4", "box -1 -1 -1 2 2 2", "plane 2 -3 0 7",
        "or plane 1 0 0 0 plane 0 1 0 0", "and plane 1 0 0 0 plane 0 1 0 0", "less plane 1 0 0 0 plane 0 1 0 0",
        "rep 4 plane 1 0 0 0", "rep 20 plane 1 0 0 0");
    spans("ball round its middle", s, 0, block(-1, -4, 0, 2, 0, 4), -16, 4 + 4 + 9 - 16);
    spans("ball beside it", s, 0, block(3, 0, -7, 5, 1, -6), 4 + 4 + 81 - 16, 16 + 9 + 100 - 16);
    spans("ball, one point", s, 0, block(0, 0, 0, 0, 0, 0), -2, -2);
    spans("box, the room", s, 1, block(-7, -7, -7, 7, 7, 7), -9, 5);
    spans("box, beside it", s, 1, block(4, 0, 0, 6, 1, 1), 1, 3);
    spans("box, below it", s, 1, block(-7, 0, 0, -5, 1, 1), 3, 5);
    spans("box, in y", s, 1, block(0, 5, 0, 0, 7, 0), 2, 4);
    spans("box, in z", s, 1, block(0, 0, -4, 0, 0, -3), 1, 2);
    spans("plane", s, 2, block(-1, -2, -7, 3, 4, 7), -2 - 12 - 7, 6 + 6 - 7);
    spans("or", s, 3, block(-3, 1, 0, 5, 2, 0), -3, 2);
    spans("and", s, 4, block(-3, 1, 0, 5, 2, 0), 1, 5);
    spans("less", s, 5, block(-3, 1, 0, 0, 2, 0), -2, 0);
    spans("less, by the second", s, 5, block(-7, 1, 0, -5, 2, 0), -2, -1);
    spans("rep in one turn", s, 6, block(1, 0, 0, 3, 0, 0), 1, 3);
    spans("rep in one turn below 0", s, 6, block(-4, 0, 0, -2, 0, 0), 0, 2);
    spans("rep of n numbers", s, 6, block(4, 0, 0, 7, 0, 0), 0, 3);
    spans("rep of more", s, 6, block(1, 0, 0, 5, 0, 0), 0, 3);
    spans("rep over its seam", s, 6, block(3, 0, 0, 4, 0, 0), 0, 3);
    spans("rep of one point", s, 6, block(-1, 0, 0, -1, 0, 0), 3, 3);
    spans("rep 20 without seam", s, 7, block(0, 0, 0, 7, 0, 0), 0, 7);
    spans("rep 20 over its seam", s, 7, block(-1, 0, 0, 0, 0, 0), 0, 19);

    SignSolids more = Check.with("turn plane 1 2 3 0", "flip plane 1 0 0 0", "move 1 2 3 plane 1 10 3 0",
        "less plane 0 0 0 1 rep 3 move 1 0 0 plane 1 0 0 0");
    spans("turn", more, 0, block(1, 2, 3, 4, 5, 6), 2 + 6 + 3, 5 + 12 + 12);
    spans("flip", more, 1, block(-2, 0, 0, 5, 0, 0), -5, 2);
    spans("move", more, 2, block(0, 0, 0, 1, 1, 1), -1 - 20 - 9, 0 - 10 - 6);
    spans("less of rep", more, 3, block(0, 0, 0, 1, 0, 0), 0, 1);

    due("8 no body", s.span(8, 0, 0, 0, 0, 0, 0, true), NO_VALUE);
    due("8 body below 0", s.span(-1, 0, 0, 0, 0, 0, 0, false), NO_VALUE);
    due("8 u below x", s.span(0, 1, 0, 0, 0, 0, 0, true), NO_VALUE);
    due("8 v below y", s.span(0, 0, 1, 0, 0, 0, 0, true), NO_VALUE);
    due("8 w below z", s.span(0, 0, 0, 1, 0, 0, 0, false), NO_VALUE);
    int[] at = {-7, -7, -7, 7, 7, 7};
    for (int i = 0; i < 6; i++) {
      int[] off = at.clone();
      off[i] += i < 3 ? -1 : 1;
      spans("no point " + i, s, 0, off, NO_VALUE, NO_VALUE);
    }
  }

  private static void partings(String what, SignSolids s, int b, int... want) {
    for (int i = 0; i < 5; i++) {
      due("9 " + what + " " + i, s.parted(b, i), want[i]);
    }
  }

  // Promise 9
  private static void parted() {
    SignSolids s = Check.with(ALL, NOTHING, ONE_POINT, "plane 1 0 0 1", "plane 1 0 0 -6", "plane 0 0 1 7", "plane 1 0 0 -7");
    partings("all", s, 0, 1, 1, 3375, 0, 1);
    partings("nothing", s, 1, 1, 0, 0, 0, 1);
    partings("one point", s, 2, 29, 1, 1, 4, 33);
    // The room's lower part goes from -7 to 0, so that x below 1 is sure in one step.
    partings("lower half", s, 3, 8, 4, 8 * 225, 1, 9);
    // x = -7 alone: 4, 16 and 64 blocks are sure at depths 1 to 3, and the points of -7 and -6 at depth 4.
    partings("one layer", s, 4, 4 + 16 + 64 + 450, 225, 225, 4, 1 + 8 + 32 + 128 + 450);
    // z below 7 leaves the upper part 1 to 7 (1 to 4, 5 to 7), of 5 to 7 the part 7 alone.
    due("9 points but one layer", s.parted(5, 2), 3375 - 225);
    due("9 depth but one layer", s.parted(5, 3), 3);
    partings("low at 0 is without", s, 6, 1, 0, 0, 0, 1);
    due("9 below", s.parted(0, -1), BAD);
    due("9 above", s.parted(0, 5), BAD);
    due("9 no body", s.parted(7, 0), BAD);
    due("9 body below 0", s.parted(-1, 0), BAD);
    s.drop();
    Check.tell(s, ONE_POINT);
    partings("a new body in an old one's place", s, 6, 29, 1, 1, 4, 33);
  }

  // Promise 10
  private static void volume() {
    SignSolids s = Check.with(ALL, NOTHING, "ball 0 0 0 1", "ball 0 0 0 2", "box -20 -20 -20 20 20 20",
        "box 7 7 7 20 20 20", "box 8 0 0 9 0 0");
    int[] want = {3375, 0, 1, 27, 3375, 1, 0};
    for (int b = 0; b < want.length; b++) {
      due("10 volume of " + b, s.volume(b), want[b]);
      due("10 again", s.volume(b), want[b]);
    }
    // The second with the other sign must be below 0 too, so that less takes its skin of noughts along.
    due("10 less a ball of 0 takes one point", Check.with("less box -1 -1 -1 1 1 1 ball 0 0 0 0").volume(0), 26);
    due("10 less a ball of 1 takes seven", Check.with("less box -1 -1 -1 1 1 1 ball 0 0 0 1").volume(0), 20);
    due("10 less a box takes one more each way", Check.with("less box -2 -2 -2 2 2 2 box 0 0 0 0 0 0").volume(0), 98);
    due("10 no body", s.volume(7), BAD);
    due("10 below", s.volume(-1), BAD);
    due("10 far", s.volume(MAX), BAD);
    due("10 far below", s.volume(MIN), BAD);
  }

  // Promise 11
  private static void point() {
    SignSolids s = Check.with("box -1 2 -3 1 3 -2", NOTHING, ALL, "rep 3 box 1 -7 7 1 -7 7");
    int i = 0;
    for (int z = -3; z <= -2; z++) {
      for (int y = 2; y <= 3; y++) {
        for (int x = -1; x <= 1; x++, i++) {
          due("11 x of " + i, s.point(0, i, 0), x);
          due("11 y of " + i, s.point(0, i, 1), y);
          due("11 z of " + i, s.point(0, i, 2), z);
        }
      }
    }
    due("11 behind the last", s.point(0, 12, 0), NO_POINT);
    due("11 below", s.point(0, -1, 0), NO_POINT);
    due("11 far", s.point(0, MAX, 2), NO_POINT);
    due("11 far below", s.point(0, MIN, 2), NO_POINT);
    due("11 what below", s.point(0, 0, -1), NO_POINT);
    due("11 what above", s.point(0, 0, 3), NO_POINT);
    due("11 no body", s.point(4, 0, 0), NO_POINT);
    due("11 body below 0", s.point(-1, 0, 0), NO_POINT);
    due("11 nothing", s.point(1, 0, 0), NO_POINT);
    due("11 first of all", s.point(2, 0, 0), -7);
    due("11 last of all", s.point(2, 3374, 0), 7);
    due("11 behind all", s.point(2, 3375, 0), NO_POINT);
    int[] xs = {-5, -2, 1, 4, 7};
    for (int k = 0; k < 5; k++) {
      due("11 in a row with gaps", s.point(3, k, 0), xs[k]);
    }
    due("11 behind the row with gaps", s.point(3, 5, 0), NO_POINT);
  }

  private static void skins(String what, SignSolids s, int b, int... want) {
    for (int i = 0; i < 4; i++) {
      due("12 " + what + " " + i, s.skin(b, i), want[i]);
    }
  }

  // Promise 12
  private static void skin() {
    SignSolids s = Check.with(ONE_POINT, NOTHING, ALL, "or box 0 0 0 0 0 0 box 1 1 0 1 1 0",
        "or box 0 0 0 0 0 0 box 1 1 1 1 1 1", "less box -1 -1 -1 1 1 1 ball 0 0 0 0", "box 0 0 0 1 0 0");
    skins("one point", s, 0, 6, 12, 8, 0);
    skins("nothing", s, 1, 0, 0, 0, 0);
    skins("all", s, 2, 1350, 2700, 1352, 0);
    skins("two by an edge", s, 3, 12, 23, 14, 1);
    skins("two by a corner", s, 4, 12, 24, 15, 0);
    skins("a hollow", s, 5, 60, 120, 64, 0);
    skins("two by a side", s, 6, 10, 20, 12, 0);
    due("12 below", s.skin(0, -1), BAD);
    due("12 above", s.skin(0, 4), BAD);
    due("12 no body", s.skin(7, 0), BAD);
    due("12 body below 0", s.skin(-1, 0), BAD);

    SignSolids ways = Check.with("or box 0 0 0 0 0 0 box 0 1 1 0 1 1", "or box 0 0 0 0 0 0 box 1 0 -1 1 0 -1",
        "or box 7 7 7 7 7 7 box 6 6 7 6 6 7", "or box 0 0 0 0 0 3 box 1 1 1 1 1 2");
    skins("two by an edge along x", ways, 0, 12, 23, 14, 1);
    skins("two by an edge along y", ways, 1, 12, 23, 14, 1);
    skins("two by an edge at the end", ways, 2, 12, 23, 14, 1);
    // Columns of 4 and 2 points that touch along two edges.
    due("12 squares of columns", ways.skin(3, 0), 18 + 10);
    due("12 edges of four squares", ways.skin(3, 3), 2);
  }

  // Promise 13
  private static void parts() {
    SignSolids s = Check.with("or box -7 0 0 -6 0 0 box 0 0 0 2 0 0", NOTHING,
        "less box -3 -3 -3 3 3 3 or ball 0 0 0 0 or ball 1 0 0 0 ball -2 -2 -2 0", ALL,
        "less box -7 -7 -7 7 7 7 ball 7 0 0 0", "or box 0 0 0 0 0 0 box 1 1 0 1 1 0",
        "rep 2 turn rep 2 turn rep 2 box 0 0 0 0 0 0");
    int[][] want = {
      {2, 0, 3, 0}, {0, 0, 0, 0}, {1, 2, 343 - 3, 3}, {1, 0, 3375, 0}, {1, 0, 3374, 0}, {2, 0, 1, 0}, {343, 0, 1, 0}
    };
    for (int b = 0; b < want.length; b++) {
      for (int what = 0; what < 4; what++) {
        due("13 parts of " + b + ", " + what, s.parts(b, what), want[b][what]);
      }
    }
    due("13 below", s.parts(0, -1), BAD);
    due("13 above", s.parts(0, 4), BAD);
    due("13 no body", s.parts(7, 0), BAD);
    due("13 body below 0", s.parts(-1, 0), BAD);
    // A hollow next to the room's end is shut; one at the end is none.
    SignSolids near = Check.with("less box -7 -7 -7 7 7 7 ball 6 6 6 0", "less box -7 -7 -7 7 7 7 ball 0 7 0 0",
        "less box -7 -7 -7 7 7 7 or ball 0 0 -7 0 ball 0 0 -6 0", "less box -7 -7 -7 7 7 7 ball -7 0 0 0",
        "less box -7 -7 -7 7 7 7 or ball 0 -7 0 0 ball 0 -6 0 0", "less box -7 -7 -7 7 7 7 ball 0 0 7 0");
    due("13 next to the end", near.parts(0, 1), 1);
    for (int b = 1; b < 6; b++) {
      due("13 at the end", near.parts(b, 1), 0);
      due("13 points at the end", near.parts(b, 3), 0);
    }
  }

  // Promise 14
  private static void part() {
    SignSolids s = Check.with("or box 5 5 -5 5 5 -5 or box -5 -5 5 -5 -5 5 or box -1 3 0 -1 3 0 box 4 0 0 6 0 0");
    due("14 least z first", s.part(0, 5, 5, -5), 0);
    due("14 then least y", s.part(0, 4, 0, 0), 1);
    due("14 the same part", s.part(0, 6, 0, 0), 1);
    due("14 third", s.part(0, -1, 3, 0), 2);
    due("14 greatest z last", s.part(0, -5, -5, 5), 3);
    due("14 not within", s.part(0, 0, 0, 0), NONE);
    due("14 no point", s.part(0, 8, 0, 0), BAD);
    due("14 no point", s.part(0, 0, -8, 0), BAD);
    due("14 no point", s.part(0, 0, 0, MAX), BAD);
    due("14 no body", s.part(1, 0, 0, 0), BAD);
    due("14 body below 0", s.part(-1, 0, 0, 0), BAD);
    // The arm of a part that lies below counts, though the asked point lies above another part.
    SignSolids arm = Check.with("or box 0 0 -2 0 0 -2 or box 5 0 -5 5 0 5 box 3 0 5 5 0 5");
    due("14 by its least point", arm.part(0, 3, 0, 5), 0);
    due("14 the other", arm.part(0, 0, 0, -2), 1);
    SignSolids row = Check.with("rep 3 box 0 0 0 0 0 0");
    for (int x = -6, k = 0; x <= 6; x += 3, k++) {
      due("14 by x", row.part(0, x, 0, 0), k);
    }
    due("14 between", row.part(0, 1, 0, 0), NONE);
  }

  // Promise 15
  private static void slice() {
    SignSolids s = Check.with("or box 0 0 0 1 2 3 box 2 3 0 2 3 0", ALL, "box 0 0 0 0 0 1",
        "less box -2 -2 -2 2 2 2 ball 0 0 0 1", "or box -3 0 0 -3 0 1 or box 3 0 0 3 0 1 box -3 0 1 3 0 1");
    due("15 points", s.slice(0, 0, 0), 7);
    due("15 outline", s.slice(0, 0, 1), 14);
    due("15 pieces", s.slice(0, 0, 2), 2);
    due("15 points above", s.slice(0, 3, 0), 6);
    due("15 outline above", s.slice(0, 3, 1), 10);
    due("15 pieces above", s.slice(0, 3, 2), 1);
    due("15 none", s.slice(0, 4, 0), 0);
    due("15 none", s.slice(0, -1, 1), 0);
    due("15 none", s.slice(0, -7, 2), 0);
    due("15 at the end", s.slice(1, 7, 0), 225);
    due("15 the room's ends are an outline", s.slice(1, -7, 1), 60);
    due("15 sides in z do not count", s.slice(2, 1, 1), 4);
    due("15 outline within too", s.slice(3, 0, 1), 20 + 12);
    due("15 ring", s.slice(3, 0, 2), 1);
    due("15 pieces do not hang together by z", s.slice(4, 0, 2), 2);
    due("15 they do in the next", s.slice(4, 1, 2), 1);
    SignSolids ends = Check.with("box 0 -7 -7 0 -7 -7", "box 7 7 7 7 7 7");
    due("15 a piece in the first row", ends.slice(0, -7, 2), 1);
    due("15 a piece in the last row", ends.slice(1, 7, 2), 1);
    due("15 z", s.slice(0, 8, 0), BAD);
    due("15 z below", s.slice(0, -8, 0), BAD);
    due("15 what", s.slice(0, 0, 3), BAD);
    due("15 what below", s.slice(0, 0, -1), BAD);
    due("15 no body", s.slice(5, 0, 0), BAD);
  }

  // Promise 16
  private static void thin() {
    SignSolids s = Check.with("box 0 0 0 0 1 2", "box 7 -7 -7 7 7 7", "box -7 -7 -7 7 7 7", "box -7 -7 -7 -6 -7 7");
    int[][] want = {{6, 0, 0}, {225, 0, 0}, {0, 0, 0}, {0, 30, 0}};
    for (int b = 0; b < want.length; b++) {
      for (int way = 0; way < 3; way++) {
        due("16 thin of " + b + ", " + way, s.thin(b, way), want[b][way]);
      }
    }
    SignSolids ways = Check.with("box 0 0 0 1 0 2", "box 0 0 0 1 2 0");
    due("16 y", ways.thin(0, 1), 6);
    due("16 not z", ways.thin(0, 2), 0);
    due("16 z", ways.thin(1, 2), 6);
    due("16 way", s.thin(0, 3), BAD);
    due("16 way below", s.thin(0, -1), BAD);
    due("16 no body", s.thin(4, 0), BAD);
    due("16 body below 0", s.thin(-1, 0), BAD);
  }

  // Promise 17
  private static void overhang() {
    SignSolids s = Check.with("or box 0 0 -7 0 0 3 box -2 0 3 2 0 4", ALL, "box 0 0 -3 1 0 0");
    due("17 arms alone", s.overhang(0, -7), 4);
    due("17 from 2", s.overhang(0, 2), 4);
    due("17 not at z itself", s.overhang(0, 3), 0);
    due("17 all", s.overhang(1, -7), 0);
    due("17 floats", s.overhang(2, -7), 2);
    due("17 floats above -4", s.overhang(2, -4), 2);
    due("17 at -3", s.overhang(2, -3), 0);
    due("17 at 7", s.overhang(0, 7), 0);
    due("17 z", s.overhang(0, 8), BAD);
    due("17 z below", s.overhang(0, -8), BAD);
    due("17 z far", s.overhang(0, MAX), BAD);
    due("17 no body", s.overhang(3, 0), BAD);
    due("17 body below 0", s.overhang(-1, 0), BAD);
  }

  // Promise 18
  private static void both() {
    SignSolids s = Check.with("box 0 0 0 3 0 0", "box 2 0 0 4 0 0", "box 1 0 0 2 0 0", NOTHING);
    int[][] pairs = {{0, 1, 2, 2, 1, 0}, {1, 0, 2, 1, 2, 0}, {0, 2, 2, 2, 0, 1}, {2, 0, 2, 0, 2, 0},
      {0, 0, 4, 0, 0, 1}, {0, 3, 0, 4, 0, 1}, {3, 0, 0, 0, 4, 0}, {3, 3, 0, 0, 0, 1}};
    for (int[] p : pairs) {
      for (int what = 0; what < 4; what++) {
        due("18 both " + p[0] + ", " + p[1] + ", " + what, s.both(p[0], p[1], what), p[2 + what]);
      }
    }
    due("18 what", s.both(0, 1, 4), BAD);
    due("18 what below", s.both(0, 1, -1), BAD);
    due("18 no first", s.both(4, 1, 0), BAD);
    due("18 no second", s.both(1, 4, 0), BAD);
    due("18 first below 0", s.both(-1, 0, 0), BAD);
    due("18 second below 0", s.both(0, -1, 0), BAD);
  }

  // Promise 19
  private static void ray() {
    SignSolids s = Check.with("or box 7 7 7 7 7 7 box 2 0 0 2 0 0", "box -20 -20 -20 20 20 20");
    due("19 itself", s.ray(0, 2, 0, 0, -1, 2, 3), 0);
    due("19 two steps", s.ray(0, 0, 0, 0, 1, 0, 0), 2);
    due("19 one step", s.ray(0, -1, 2, 3, 3, -2, -3), 1);
    due("19 over it", s.ray(0, 1, 0, 0, 3, 0, 0), NONE);
    due("19 away", s.ray(0, 1, 0, 0, -1, 0, 0), NONE);
    due("19 all the way", s.ray(0, -7, -7, -7, 1, 1, 1), 14);
    due("19 seven steps", s.ray(0, -7, 0, 7, 2, 1, 0), 7);
    due("19 not outside the room", s.ray(0, 7, 0, 0, 1, 0, 0), NONE);
    due("19 all", s.ray(1, 7, 7, 7, 1, 1, 1), 0);
    due("19 no step", s.ray(0, 2, 0, 0, 0, 0, 0), BAD);
    due("19 u", s.ray(0, 2, 0, 0, 4, 0, 0), BAD);
    due("19 v", s.ray(0, 2, 0, 0, 0, -4, 0), BAD);
    due("19 w", s.ray(0, 2, 0, 0, 0, 0, MAX), BAD);
    due("19 x", s.ray(0, -8, 0, 0, 1, 0, 0), BAD);
    due("19 y", s.ray(0, 0, 8, 0, 0, -1, 0), BAD);
    due("19 z", s.ray(0, 0, 0, MIN, 0, 0, 1), BAD);
    due("19 no body", s.ray(2, 0, 0, 0, 1, 0, 0), BAD);
    due("19 body below 0", s.ray(-1, 0, 0, 0, 1, 0, 0), BAD);
  }

  // Promise 20
  private static void sheet() {
    SignSolids s = Check.with(ONE_POINT);
    due("20 sheet", s.sheet(0, 0, 64), 1);
    due("20 its cells", s.count(1), 64);
    due("20 none", s.sheet(0, 1, 0), 1);
    due("20 no cells", s.count(1), 0);
    due("20 no cells are no nothing", s.lay(0, 0, 1), -12);
    due("20 above", s.sheet(0, 0, 65), BAD);
    due("20 below", s.sheet(0, 0, -1), -14);
    due("20 far below", s.sheet(0, 0, MIN), -14);
    due("20 far", s.sheet(0, 0, MAX), BAD);
    due("20 k", s.sheet(4, 0, 1), BAD);
    due("20 k below", s.sheet(-1, 0, 1), BAD);
    due("20 k ahead of the size", s.sheet(4, 0, -1), BAD);
    due("20 lane", s.sheet(0, 3, 1), BAD);
    due("20 lane below", s.sheet(0, -1, 1), BAD);
    due("20 lane ahead of the size", s.sheet(0, 3, -1), BAD);
    due("20 refused changes nothing", s.count(1), 0);
    s.sheet(1, 2, 3);
    s.lay(1, 0, 5);
    due("20 not the origin", s.scan(0, 1, 2, 0, 1), 0);
    due("20 refused", s.sheet(1, 2, -3), -14);
    due("20 its cells stay", s.scan(0, 1, 2, 0, 1), 0);
    s.sheet(1, 2, 3);
    due("20 a new row is all 0", s.scan(0, 1, 2, 0, 1), 1);
    s.sheet(1, 2, 2);
    s.sheet(1, 2, 3);
    due("20 and again", s.scan(0, 1, 2, 0, 1), 1);
    due("20 the others have nothing", s.lay(2, 0, 0), -11);
    due("20 the last", s.sheet(3, 2, 1), 1);
  }

  // Promise 21
  private static void lay() {
    SignSolids s = Check.with("box 3 0 0 3 0 0");
    due("21 nothing", s.lay(0, 0, 0), -11);
    due("21 nothing ahead of the index", s.lay(0, -1, 0), -11);
    due("21 k", s.lay(4, 0, 0), BAD);
    due("21 k below", s.lay(-1, 0, 0), BAD);
    int[] low = {3 + 256, 3 + 65536, 3};
    int[] lost = {3 + 128, 3 + 32768, 3 + 65536};
    for (int lane = 0; lane < 3; lane++) {
      s.sheet(0, lane, 3);
      due("21 lay", s.lay(0, 0, low[lane]), 1);
      due("21 the lowest bits", s.scan(0, 0, lane, 0, 1), 1);
      due("21 lay", s.lay(0, 0, lost[lane]), 1);
      due("21 no more bits", s.scan(0, 0, lane, 0, 1), -20);
      due("21 behind", s.lay(0, 3, 0), -12);
      due("21 ahead", s.lay(0, -1, 0), -12);
      due("21 far", s.lay(0, MAX, 0), -12);
      due("21 far below", s.lay(0, MIN, 0), -12);
    }
    SignSolids sign = Check.with("box -3 0 0 -3 0 0");
    sign.sheet(1, 0, 3);
    sign.lay(1, 0, 253);
    due("21 bytes have a sign", sign.scan(0, 1, 0, 0, 1), 1);
    sign.sheet(1, 1, 3);
    sign.lay(1, 0, 65533);
    due("21 shorts have a sign", sign.scan(0, 1, 1, 0, 1), 1);
    sign.sheet(1, 2, 3);
    sign.lay(1, 0, 65533);
    due("21 ints keep all bits", sign.scan(0, 1, 2, 0, 1), -20);
  }

  // Promise 22
  private static void scan() {
    SignSolids s = Check.with("ball 0 0 0 1");
    due("22 nothing", s.scan(0, 0, 0, 0, 1), -11);
    due("22 nothing, no points", s.scan(0, 0, 0, 0, 0), -11);
    s.sheet(0, 1, 64);
    due("22 all", s.scan(0, 0, 1, 0, 20), 20);
    due("22 up to the last cell", s.scan(0, 0, 1, 4, 20), 20);
    due("22 one cell too many", s.scan(0, 0, 1, 5, 20), -12);
    due("22 two too many", s.scan(0, 0, 1, 63, 1), -12);
    due("22 all three too many", s.scan(0, 0, 1, 64, 1), -12);
    due("22 last point", s.scan(0, 0, 1, 61, 1), 1);
    due("22 below 0", s.scan(0, 0, 1, -1, 1), -12);
    due("22 far", s.scan(0, 0, 1, MAX, 20), -12);
    due("22 far below", s.scan(0, 0, 1, MIN, 20), -12);
    due("22 no points, any cell", s.scan(0, 0, 1, MAX, 0), 0);
    due("22 another lane", s.scan(0, 0, 0, 0, 1), -13);
    due("22 another lane, no points", s.scan(0, 0, 2, 99, 0), -13);
    due("22 n", s.scan(0, 0, 1, 0, 21), BAD);
    due("22 n below", s.scan(0, 0, 1, 0, -1), BAD);
    due("22 lane", s.scan(0, 0, 3, 0, 1), BAD);
    due("22 lane below", s.scan(0, 0, -1, 0, 1), BAD);
    due("22 k", s.scan(0, 4, 1, 0, 1), BAD);
    due("22 k below", s.scan(0, -1, 1, 0, 1), BAD);
    due("22 b", s.scan(1, 0, 1, 0, 1), BAD);
    due("22 b below", s.scan(-1, 0, 1, 0, 1), BAD);
    due("22 BAD ahead of nothing", s.scan(0, 1, 3, 0, 1), BAD);
    s.lay(0, 1, 1);
    s.lay(0, 5, 8);
    due("22 one of one is not within", s.scan(0, 0, 1, 0, 1), 0);
    due("22 no point", s.scan(0, 0, 1, 0, 2), -21);
    due("22 by its number", s.scan(0, 0, 1, 3, 1), -20);
    due("22 no point ahead of the index", s.scan(0, 0, 1, 5, 20), -20);
    s.lay(0, 5, 0);
    s.lay(0, 63, -8);
    due("22 three cells are read ahead", s.scan(0, 0, 1, 63, 1), -12);
    due("22 no point, third cell", s.scan(0, 0, 1, 4, 20), -39);
    due("22 points count", s.scan(0, 0, 1, 0, 20), 19);
  }

  // Promise 23
  private static void count() {
    SignSolids s = Check.with(ONE_POINT, "or turn flip ball 0 0 0 1 rep 2 move 0 0 0 less plane 0 0 0 0 and box 0 0 0 0 0 0 ball 0 0 0 0");
    due("23 bodies", s.count(0), 2);
    due("23 nothing", s.count(1), NONE);
    s.sheet(1, 0, 5);
    due("23 another sheet", s.count(1), NONE);
    s.sheet(0, 2, 7);
    due("23 cells", s.count(1), 7);
    s.feed(0);
    due("23 bytes", s.count(2), 8);
    due("23 rules", s.count(3), 11);
    due("23 a fault leaves the latest", s.body(), -10);
    due("23 rules", s.count(3), 11);
    s.drop();
    due("23 rules of the one before", s.count(3), 1);
    s.drop();
    due("23 no body", s.count(3), NONE);
    due("23 what", s.count(4), BAD);
    due("23 what below", s.count(-1), BAD);
    due("23 what far", s.count(MIN), BAD);
  }
}
