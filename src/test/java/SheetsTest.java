/** Promises 20 to 23: sheets of cells, scans of points on them, and counts. */
public final class SheetsTest {
  private static final int BAD = Check.BAD, NONE = Check.NONE, MIN = Check.MIN, MAX = Check.MAX;
  private static final int NULL = -11, INDEX = -12, CAST = -13, SIZE = -14;
  private static final String ONE_POINT = Check.ONE_POINT;
  private static final String LANES = "SHEETS 0 to 3 are rows of BYTES (lane 0), SHORTS (1), INTS (2) with 0 to 64 CELLS,"
      + " or nothing (at first).";
  private static final String LAY_FAULTS = "BAD: k; -10 less the FAULT: NULL, INDEX.";
  private static final String SCANNED = "How many of n POINTS (0 to 20), three CELLS each from CELL f on";
  private static final String SCAN_FAULTS = "-10 less the FAULT: NULL, CAST, then POINT by POINT INDEX";

  public static void main(String[] args) {
    Check.sentence("promise 20, Terms", LANES, SheetsTest::fourSheetsOfThreeLanes);
    Check.sentence("promise 20, Terms", LANES, SheetsTest::sheetsOf0To64);
    Check.sentence("promises 20 to 22, Terms", "A FAULT is what the machine finds: 1 NULL (nothing), 2 INDEX, 3 CAST"
        + " (another lane), 4 SIZE (below 0).", SheetsTest::theFourFaults);
    Check.sentence("promise 20", "A SHEET is a new row of CELLS 0: 1.", SheetsTest::newRowsAreNought);
    Check.sentence("promise 20", "BAD: also n above 64; -10 - 4.", SheetsTest::sheetBad);
    Check.sentence("promise 20", "BAD: also n above 64; -10 - 4.", SheetsTest::sheetBelow0);
    Check.sentence("promise 20", "BAD: also n above 64; -10 - 4.", SheetsTest::sheetRefusedStays);

    Check.sentence("promise 21", "CELL i of a SHEET becomes v (its lowest bits): 1.", SheetsTest::layFirstAndLast);
    Check.sentence("promise 21", "CELL i of a SHEET becomes v (its lowest bits): 1.", SheetsTest::lowestBits);
    Check.sentence("promise 21", LAY_FAULTS, SheetsTest::layBad);
    Check.sentence("promise 21", LAY_FAULTS, SheetsTest::layOnNothing);
    Check.sentence("promise 21", LAY_FAULTS, SheetsTest::layOutside);

    Check.sentence("promise 22", SCANNED, SheetsTest::scanInOrder);
    Check.sentence("promise 22", SCANNED, SheetsTest::scanOf0To20);
    Check.sentence("promise 22", "BAD: b, k, lane, n", SheetsTest::scanBad);
    Check.sentence("promise 22", SCAN_FAULTS, SheetsTest::scanOfNothing);
    Check.sentence("promise 22", SCAN_FAULTS, SheetsTest::scanOfAnotherLane);
    Check.sentence("promise 22", SCAN_FAULTS, SheetsTest::scanOutside);
    Check.sentence("promise 22", "-20 less i: number i (from 0 on) is no POINT", SheetsTest::scanOfNoPoint);
    Check.sentence("promise 22", "-20 less i: number i (from 0 on) is no POINT; the first met.", SheetsTest::firstMet);

    Check.sentence("promise 23", "How many: 0 BODIES", SheetsTest::countsBodies);
    Check.sentence("promise 23", "1 CELLS of SHEET 0 (NONE: nothing)", SheetsTest::countsCells);
    Check.sentence("promise 23", "2 bytes on THE TAPE", SheetsTest::countsBytes);
    Check.sentence("promise 23", "3 rules that the latest BODY's text tells (each text one; NONE: no BODY).",
        SheetsTest::countsRules);
    Check.sentence("promise 23", "BAD.", SheetsTest::countBad);
    Check.finish("SheetsTest");
  }

  private static void due(String call, int got, int want) {
    Check.due(call, got, want);
  }

  // ---- promise 20

  private static void fourSheetsOfThreeLanes() {
    SignSolids s = Check.with(ONE_POINT);
    for (int k = 0; k < 4; k++) {
      for (int lane = 0; lane < 3; lane++) {
        due("sheet " + k + ", lane " + lane, s.sheet(k, lane, 3), 1);
        for (int taken = 0; taken < 3; taken++) {
          due("taken as " + taken, s.scan(0, k, taken, 0, 1), taken == lane ? 1 : CAST);
        }
        for (int other = k + 1; other < 4; other++) {
          due("sheet " + other + " has nothing yet", s.lay(other, 0, 0), NULL);
        }
      }
    }
    due("a sheet has its own cells", s.lay(1, 0, 5), 1);
    due("another's stay", s.scan(0, 2, 2, 0, 1), 1);
    due("its own do not", s.scan(0, 1, 2, 0, 1), 0);
  }

  private static void sheetsOf0To64() {
    SignSolids s = new SignSolids();
    for (int lane = 0; lane < 3; lane++) {
      for (int n : new int[] {0, 1, 63, 64}) {
        due("sheet of " + n, s.sheet(0, lane, n), 1);
        due("cells", s.count(1), n);
        due("behind its last", s.lay(0, n, 1), INDEX);
        due("its last", s.lay(0, n - 1, 1), n == 0 ? INDEX : 1);
      }
    }
  }

  private static void theFourFaults() {
    SignSolids s = Check.with(ONE_POINT);
    due("1, lay on nothing", s.lay(2, 0, 0), -10 - 1);
    due("1, scan of nothing", s.scan(0, 2, 0, 0, 1), -10 - 1);
    due("4, a size below 0", s.sheet(2, 0, -1), -10 - 4);
    s.sheet(2, 0, 2);
    due("2, lay behind the last", s.lay(2, 2, 0), -10 - 2);
    due("2, scan behind the last", s.scan(0, 2, 0, 0, 1), -10 - 2);
    due("3, scan of another lane", s.scan(0, 2, 1, 0, 1), -10 - 3);
    // They are no faults of texts.
    due("fault", s.fault(), 0);
  }

  private static void newRowsAreNought() {
    SignSolids s = Check.with(ONE_POINT);
    for (int lane = 0; lane < 3; lane++) {
      s.sheet(0, lane, 63);
      due("all at first", s.scan(0, 0, lane, 0, 20) + s.scan(0, 0, lane, 60, 1), 21);
      for (int i = 0; i < 63; i++) {
        s.lay(0, i, 1);
      }
      due("none when laid", s.scan(0, 0, lane, 0, 20), 0);
      due("shorter", s.sheet(0, lane, 3), 1);
      due("all of the shorter", s.scan(0, 0, lane, 0, 1), 1);
      due("as long as before", s.sheet(0, lane, 63), 1);
      due("all again", s.scan(0, 0, lane, 0, 20) + s.scan(0, 0, lane, 60, 1), 21);
    }
  }

  private static void sheetBad() {
    SignSolids s = new SignSolids();
    for (int lane = 0; lane < 3; lane++) {
      due("65 cells", s.sheet(0, lane, 65), BAD);
      due("most cells", s.sheet(0, lane, MAX), BAD);
    }
    for (int k : Check.outside(0, 3)) {
      due("k " + k, s.sheet(k, 0, 1), BAD);
      due("k " + k + " ahead of the size", s.sheet(k, 0, -1), BAD);
    }
    for (int lane : Check.outside(0, 2)) {
      due("lane " + lane, s.sheet(0, lane, 1), BAD);
      due("lane " + lane + " ahead of the size", s.sheet(0, lane, -1), BAD);
    }
    due("no sheet was made", s.count(1), NONE);
  }

  private static void sheetBelow0() {
    SignSolids s = new SignSolids();
    for (int k = 0; k < 4; k++) {
      for (int lane = 0; lane < 3; lane++) {
        due("-1 cells", s.sheet(k, lane, -1), SIZE);
        due("least cells", s.sheet(k, lane, MIN), SIZE);
      }
      due("no sheet was made", s.lay(k, 0, 0), NULL);
    }
  }

  private static void sheetRefusedStays() {
    SignSolids s = Check.with("box 5 0 0 5 0 0");
    s.sheet(0, 2, 3);
    s.lay(0, 0, 5);
    due("65 cells", s.sheet(0, 1, 65), BAD);
    due("lane 3", s.sheet(0, 3, 1), BAD);
    due("-1 cells", s.sheet(0, 1, -1), SIZE);
    due("cells", s.count(1), 3);
    due("the lane and the cells stay", s.scan(0, 0, 2, 0, 1), 1);
  }

  // ---- promise 21

  private static void layFirstAndLast() {
    SignSolids s = Check.with("box 1 2 3 1 2 3");
    for (int lane = 0; lane < 3; lane++) {
      s.sheet(3, lane, 64);
      for (int c = 1; c <= 3; c++) {
        due("first cells", s.lay(3, c - 1, c), 1);
        due("last cells", s.lay(3, 60 + c, c), 1);
      }
      due("the first point", s.scan(0, 3, lane, 0, 1), 1);
      due("the last point", s.scan(0, 3, lane, 61, 1), 1);
      due("the one ahead of it", s.scan(0, 3, lane, 58, 1), 0);
    }
  }

  /** Whether v, laid in a cell of a lane, is there as the number c. */
  private static void laidAs(int lane, int v, int c) {
    SignSolids s = Check.with("box " + c + " 0 0 " + c + " 0 0");
    s.sheet(0, lane, 3);
    s.lay(0, 0, v);
    due(v + " in lane " + lane + " is " + c, s.scan(0, 0, lane, 0, 1), 1);
  }

  private static void laidAsNoPoint(int lane, int v) {
    SignSolids s = Check.with(Check.ALL);
    s.sheet(0, lane, 3);
    s.lay(0, 0, v);
    due(v + " in lane " + lane + " is no point's", s.scan(0, 0, lane, 0, 1), -20);
  }

  private static void lowestBits() {
    int[] sizes = {256, 65536};
    for (int lane = 0; lane < 2; lane++) {
      int size = sizes[lane];
      for (int c : new int[] {-7, -1, 0, 1, 7}) {
        laidAs(lane, c, c);
        laidAs(lane, c + size, c);
        laidAs(lane, c - size, c);
        laidAs(lane, c + 3 * size, c);
      }
      laidAs(lane, MIN, 0);
      laidAs(lane, MAX, -1);
      laidAsNoPoint(lane, 8);
      laidAsNoPoint(lane, -8);
      laidAsNoPoint(lane, size / 2);
      laidAsNoPoint(lane, size / 2 - 1);
      laidAsNoPoint(lane, size / 2 + 7);
      laidAsNoPoint(lane, size + 8);
    }
    laidAs(1, -65536 + 7, 7);
    laidAsNoPoint(1, 256);
    laidAs(2, 7, 7);
    laidAs(2, -7, -7);
    for (int v : new int[] {8, -8, 256, 65536, 65535, MIN, MAX, MIN + 7}) {
      laidAsNoPoint(2, v);
    }
  }

  private static void layBad() {
    SignSolids s = new SignSolids();
    s.sheet(0, 0, 1);
    for (int k : Check.outside(0, 3)) {
      due("k " + k, s.lay(k, 0, 0), BAD);
      due("k " + k + " ahead of the index", s.lay(k, -1, 0), BAD);
    }
  }

  private static void layOnNothing() {
    SignSolids s = new SignSolids();
    for (int k = 0; k < 4; k++) {
      for (int i : new int[] {0, 63, 64, -1, MIN, MAX}) {
        due("sheet " + k + ", cell " + i, s.lay(k, i, 0), NULL);
      }
    }
  }

  private static void layOutside() {
    SignSolids s = Check.with(ONE_POINT);
    for (int lane = 0; lane < 3; lane++) {
      for (int n : new int[] {0, 3, 64}) {
        s.sheet(1, lane, n);
        for (int i : Check.outside(0, n - 1)) {
          due("cell " + i + " of " + n, s.lay(1, i, 5), INDEX);
        }
      }
      due("no cell was changed", s.scan(0, 1, lane, 0, 20) + s.scan(0, 1, lane, 61, 1), 21);
    }
  }

  // ---- promise 22

  private static void scanInOrder() {
    SignSolids s = Check.with("box 1 2 3 1 2 3");
    s.sheet(0, 0, 64);
    int[] cells = {9, 1, 2, 3, 1, 3, 2, 1, 2, 3};
    for (int i = 0; i < cells.length; i++) {
      s.lay(0, i, cells[i]);
    }
    due("one", s.scan(0, 0, 0, 1, 1), 1);
    due("x, y, z in this order", s.scan(0, 0, 0, 4, 1), 0);
    due("two of three", s.scan(0, 0, 0, 1, 3), 2);
    due("two of twenty", s.scan(0, 0, 0, 1, 20), 2);
  }

  private static void scanOf0To20() {
    SignSolids s = Check.with(ONE_POINT);
    s.sheet(0, 1, 64);
    for (int n = 0; n <= 20; n++) {
      due(n + " points", s.scan(0, 0, 1, 0, n), n);
    }
    due("20 up to the last cell", s.scan(0, 0, 1, 4, 20), 20);
    // No points ask for no cells.
    for (int f : new int[] {0, 63, 64, -1, MIN, MAX}) {
      due("no points from " + f, s.scan(0, 0, 1, f, 0), 0);
    }
    s.sheet(0, 1, 0);
    due("no points of no cells", s.scan(0, 0, 1, 0, 0), 0);
    due("one point of no cells", s.scan(0, 0, 1, 0, 1), INDEX);
  }

  private static void scanBad() {
    SignSolids s = Check.with(ONE_POINT);
    s.sheet(0, 1, 64);
    for (int b : Check.noBodies(1)) {
      due("body " + b, s.scan(b, 0, 1, 0, 1), BAD);
      due("body " + b + " ahead of NULL", s.scan(b, 1, 1, 0, 1), BAD);
    }
    for (int k : Check.outside(0, 3)) {
      due("k " + k, s.scan(0, k, 1, 0, 1), BAD);
    }
    for (int lane : Check.outside(0, 2)) {
      due("lane " + lane, s.scan(0, 0, lane, 0, 1), BAD);
      due("lane " + lane + " ahead of NULL", s.scan(0, 1, lane, 0, 1), BAD);
    }
    for (int n : Check.outside(0, 20)) {
      due("n " + n, s.scan(0, 0, 1, 0, n), BAD);
      due("n " + n + " ahead of NULL", s.scan(0, 1, 1, 0, n), BAD);
      due("n " + n + " ahead of CAST", s.scan(0, 0, 2, 0, n), BAD);
      due("n " + n + " ahead of INDEX", s.scan(0, 0, 1, 64, n), BAD);
    }
  }

  private static void scanOfNothing() {
    SignSolids s = Check.with(ONE_POINT);
    for (int k = 0; k < 4; k++) {
      for (int lane = 0; lane < 3; lane++) {
        due("one point", s.scan(0, k, lane, 0, 1), NULL);
        due("no points", s.scan(0, k, lane, 0, 0), NULL);
        due("ahead of the index", s.scan(0, k, lane, -1, 20), NULL);
      }
    }
  }

  private static void scanOfAnotherLane() {
    SignSolids s = Check.with(ONE_POINT);
    for (int lane = 0; lane < 3; lane++) {
      s.sheet(0, lane, 3);
      s.lay(0, 0, 8);
      for (int taken = 0; taken < 3; taken++) {
        due("taken as " + taken, s.scan(0, 0, taken, 0, 1), taken == lane ? -20 : CAST);
        due("no points", s.scan(0, 0, taken, 0, 0), taken == lane ? 0 : CAST);
        due("ahead of the index", s.scan(0, 0, taken, 99, 1), taken == lane ? INDEX : CAST);
      }
      s.sheet(0, lane, 0);
      due("of no cells", s.scan(0, 0, (lane + 1) % 3, 0, 0), CAST);
    }
  }

  private static void scanOutside() {
    SignSolids s = Check.with(ONE_POINT);
    for (int lane = 0; lane < 3; lane++) {
      s.sheet(0, lane, 64);
      due("the last point", s.scan(0, 0, lane, 61, 1), 1);
      for (int f : new int[] {62, 63, 64, -1, -2, -3, MIN, MAX, MAX - 1, MAX - 2}) {
        due("from " + f, s.scan(0, 0, lane, f, 1), INDEX);
        due("twenty from " + f, s.scan(0, 0, lane, f, 20), INDEX);
      }
      due("the twentieth's last cell", s.scan(0, 0, lane, 5, 20), INDEX);
      due("a point more than there are", s.scan(0, 0, lane, 58, 3), INDEX);
    }
  }

  private static void scanOfNoPoint() {
    SignSolids s = Check.with(Check.ALL);
    s.sheet(0, 0, 60);
    for (int i = 0; i < 20; i++) {
      int cell = 3 * i + i % 3;
      for (int c : new int[] {-7, 7}) {
        s.lay(0, cell, c);
        due("number " + i + " with " + c, s.scan(0, 0, 0, 0, 20), 20);
      }
      for (int c : new int[] {-8, 8, 127, -128}) {
        s.lay(0, cell, c);
        due("number " + i + " with " + c, s.scan(0, 0, 0, 0, 20), -20 - i);
      }
      due("those ahead of it", s.scan(0, 0, 0, 0, i), i);
      due("it alone", s.scan(0, 0, 0, 3 * i, 1), -20);
      s.lay(0, cell, 0);
    }
    s.sheet(0, 2, 3);
    for (int cell = 0; cell < 3; cell++) {
      for (int c : Check.outside(-7, 7)) {
        s.lay(0, cell, c);
        due("cell " + cell + " " + c, s.scan(0, 0, 2, 0, 1), -20);
      }
      s.lay(0, cell, 0);
    }
  }

  private static void firstMet() {
    SignSolids s = Check.with(ONE_POINT);
    s.sheet(0, 1, 8);
    s.lay(0, 1, 8);
    due("no point ahead of a later index", s.scan(0, 0, 1, 0, 20), -20);
    s.lay(0, 4, 8);
    due("the first of two that are none", s.scan(0, 0, 1, 0, 2), -20);
    s.lay(0, 1, 0);
    due("the second", s.scan(0, 0, 1, 0, 20), -21);
    s.lay(0, 4, 0);
    // Of one point the cells come ahead of what is in them.
    s.lay(0, 6, 8);
    due("an index ahead of no point", s.scan(0, 0, 1, 0, 3), INDEX);
    due("an index ahead of no point, alone", s.scan(0, 0, 1, 6, 1), INDEX);
    due("two ahead of them", s.scan(0, 0, 1, 0, 2), 2);
  }

  // ---- promise 23

  private static void countsBodies() {
    SignSolids s = new SignSolids();
    due("none", s.count(0), 0);
    for (int b = 1; b <= 8; b++) {
      Check.tell(s, ONE_POINT);
      due("bodies", s.count(0), b);
    }
    Check.tell(s, ONE_POINT);
    due("behind FULL", s.count(0), 8);
    s.drop();
    due("behind drop", s.count(0), 7);
  }

  private static void countsCells() {
    SignSolids s = new SignSolids();
    due("nothing", s.count(1), NONE);
    for (int k = 1; k < 4; k++) {
      s.sheet(k, 0, 5);
      due("other sheets", s.count(1), NONE);
    }
    s.sheet(0, 2, 0);
    due("no cells are not nothing", s.count(1), 0);
    s.sheet(0, 1, 64);
    due("most cells", s.count(1), 64);
    s.sheet(1, 1, 7);
    due("another sheet", s.count(1), 64);
  }

  private static void countsBytes() {
    SignSolids s = new SignSolids();
    due("none", s.count(2), 0);
    for (int n = 8; n <= 160; n += 8) {
      s.feed(0);
      due("bytes", s.count(2), n);
    }
    s.feed(0);
    due("behind FULL", s.count(2), 160);
    s.end(159);
    due("behind end", s.count(2), 159);
    s.body();
    due("behind body", s.count(2), 0);
  }

  private static void countsRules() {
    SignSolids s = new SignSolids();
    due("no body", s.count(3), NONE);
    Check.tell(s, "x");
    due("a fault tells none", s.count(3), NONE);
    Check.tell(s, ONE_POINT);
    due("one", s.count(3), 1);
    Check.tell(s, "or turn flip ball 0 0 0 1 rep 2 move 0 0 0 less plane 0 0 0 0 and box 0 0 0 0 0 0 ball 0 0 0 0");
    due("each text one", s.count(3), 11);
    Check.tell(s, "or ball 0 0 0 1 ball 0 0 0 x");
    due("a fault leaves the latest", s.count(3), 11);
    s.drop();
    due("the one before", s.count(3), 1);
    s.drop();
    due("no body any more", s.count(3), NONE);
  }

  private static void countBad() {
    SignSolids s = Check.with(ONE_POINT);
    for (int what : Check.outside(0, 3)) {
      due("what " + what, s.count(what), BAD);
    }
  }
}
