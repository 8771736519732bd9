/** Solids told in a text by rules that are below nought within; ../shared/DOC.md has the promises. */
public final class SignSolids {
  public static final int BAD = -1, STATE = -2, FULL = -3, NONE = -4;

  private static final int BAD_VALUE = -1000000000;
  private static final int BAD_POINT = -100;
  private static final int FAULT_BASE = -10;
  private static final int NO_POINT_BASE = -20;

  private static final int LEAST = -7, MOST = 7, SIDE = 15;
  private static final int ROW_COUNT = SIDE * SIDE;
  private static final int POINT_COUNT = SIDE * ROW_COUNT;
  // A row of 15 points is kept as bits 1 to 15, so that a shift by one never loses a point.
  private static final int BIT_OF_NOUGHT = 8;
  private static final int FULL_ROW = 0xFFFE;
  private static final int ROW_ENDS = 0x8002;

  private static final int FARTHEST = 1000;
  private static final int WIDEST_STEP = 3;
  private static final int MOST_BODIES = 8;
  private static final int SHEET_COUNT = 4;
  private static final int LANE_COUNT = 3;
  private static final int MOST_CELLS = 64;
  private static final int MOST_SCANNED = 20;

  private static final int NULL_FAULT = 1, INDEX_FAULT = 2, CAST_FAULT = 3, SIZE_FAULT = 4;

  private static final int BALL = 0, BOX = 1, PLANE = 2, OR = 3, AND = 4, LESS = 5;
  private static final int MOVE = 6, TURN = 7, FLIP = 8, REP = 9, KIND_COUNT = 10;

  private final Tape tape = new Tape();
  private final Reader reader = new Reader(tape);
  private final Body[] bodies = new Body[MOST_BODIES];
  private int bodyCount = 0;
  private int latestFault = 0;
  private final Flood flood = new Flood();
  private final Sheet[] sheets = new Sheet[SHEET_COUNT];

  public SignSolids() {
    for (int k = 0; k < SHEET_COUNT; k++) {
      sheets[k] = new Sheet();
    }
  }

  // ---- the tape and the bodies

  public int feed(long v) {
    return tape.append(v) ? tape.length : FULL;
  }

  public int end(int n) {
    int had = tape.length;
    return tape.shorten(n) ? had : BAD;
  }

  public int body() {
    if (bodyCount < 0 || bodyCount >= MOST_BODIES) {
      return FULL;
    }
    Form form = reader.read();
    latestFault = reader.fault;
    tape.shorten(0);
    if (form == null) {
      return FAULT_BASE - reader.faultPlace;
    }
    bodies[bodyCount] = new Body(form, reader.texts);
    bodyCount++;
    return bodyCount - 1;
  }

  public int fault() {
    return latestFault;
  }

  public int drop() {
    if (bodyCount < 1 || bodyCount > MOST_BODIES) {
      return NONE;
    }
    bodyCount--;
    bodies[bodyCount] = null;
    return bodyCount;
  }

  // ---- rules and their spans

  public int rule(int b, int x, int y, int z) {
    Body body = bodyNumber(b);
    if (body == null || !isNear(x, FARTHEST) || !isNear(y, FARTHEST) || !isNear(z, FARTHEST)) {
      return BAD_VALUE;
    }
    return body.form.valueAt(x, y, z);
  }

  public int span(int b, int x, int y, int z, int u, int v, int w, boolean high) {
    Body body = bodyNumber(b);
    if (body == null || !isPoint(x, y, z) || !isPoint(u, v, w) || u < x || v < y || w < z) {
      return BAD_VALUE;
    }
    return body.form.bound(x, y, z, u, v, w, high);
  }

  public int parted(int b, int what) {
    Body body = bodyNumber(b);
    return body == null || !isBetween(what, 0, 4) ? BAD : body.partedNumber(what);
  }

  // ---- points within

  public int volume(int b) {
    Body body = paintedBody(b);
    return body == null ? BAD : body.size();
  }

  public int point(int b, int i, int what) {
    Body body = paintedBody(b);
    return body == null || i < 0 || !isBetween(what, 0, 2) ? BAD_POINT : body.coordinate(i, what);
  }

  public int skin(int b, int what) {
    Body body = paintedBody(b);
    if (body == null) {
      return BAD;
    }
    switch (what) {
      case 0:
        return body.squares();
      case 1:
        return body.edges(false);
      case 2:
        return body.corners();
      case 3:
        return body.edges(true);
      default:
        return BAD;
    }
  }

  public int parts(int b, int what) {
    Body body = paintedBody(b);
    if (body == null || !isBetween(what, 0, 3)) {
      return BAD;
    }
    if (what == 0 || what == 2) {
      flood.loadWithin(body);
      return what == 0 ? flood.countPieces() : flood.greatestPiece();
    }
    flood.loadWithout(body);
    return what == 1 ? flood.countShutPieces() : flood.countShutPoints();
  }

  public int part(int b, int x, int y, int z) {
    Body body = paintedBody(b);
    if (body == null || !isPoint(x, y, z)) {
      return BAD;
    }
    flood.loadWithin(body);
    return flood.pieceOf(x, y, z);
  }

  public int slice(int b, int z, int what) {
    Body body = paintedBody(b);
    if (body == null || !isNear(z, MOST)) {
      return BAD;
    }
    switch (what) {
      case 0:
        return body.sliceSize(z);
      case 1:
        return body.outline(z);
      case 2:
        flood.loadSlice(body, z);
        return flood.countPieces();
      default:
        return BAD;
    }
  }

  public int thin(int b, int way) {
    Body body = paintedBody(b);
    return body == null || !isBetween(way, 0, 2) ? BAD : body.thinPoints(way);
  }

  public int overhang(int b, int z) {
    Body body = paintedBody(b);
    return body == null || !isNear(z, MOST) ? BAD : body.hangingPoints(z);
  }

  public int both(int a, int b, int what) {
    Body first = paintedBody(a);
    Body second = paintedBody(b);
    if (first == null || second == null) {
      return BAD;
    }
    switch (what) {
      case 0:
        return first.shared(second);
      case 1:
        return first.size() - first.shared(second);
      case 2:
        return second.size() - first.shared(second);
      case 3:
        return second.size() == first.shared(second) ? 1 : 0;
      default:
        return BAD;
    }
  }

  public int ray(int b, int x, int y, int z, int u, int v, int w) {
    Body body = bodyNumber(b);
    if (body == null || !isPoint(x, y, z) || !isStep(u, v, w)) {
      return BAD;
    }
    // A step that is not nought leaves the room after 14 steps at most.
    for (int steps = 0; steps < SIDE; steps++) {
      if (body.has(x + steps * u, y + steps * v, z + steps * w)) {
        return steps;
      }
    }
    return NONE;
  }

  // ---- sheets

  public int sheet(int k, int lane, int n) {
    Sheet sheet = sheetNumber(k);
    if (sheet == null || !isLane(lane) || n > MOST_CELLS) {
      return BAD;
    }
    if (n < 0) {
      return FAULT_BASE - SIZE_FAULT;
    }
    sheet.renew(lane, n);
    return 1;
  }

  public int lay(int k, int i, int v) {
    Sheet sheet = sheetNumber(k);
    if (sheet == null) {
      return BAD;
    }
    if (sheet.isNothing()) {
      return FAULT_BASE - NULL_FAULT;
    }
    return sheet.put(i, v) ? 1 : FAULT_BASE - INDEX_FAULT;
  }

  public int scan(int b, int k, int lane, int f, int n) {
    Body body = bodyNumber(b);
    Sheet sheet = sheetNumber(k);
    if (body == null || sheet == null || !isLane(lane) || !isBetween(n, 0, MOST_SCANNED)) {
      return BAD;
    }
    if (sheet.isNothing()) {
      return FAULT_BASE - NULL_FAULT;
    }
    if (sheet.lane != lane) {
      return FAULT_BASE - CAST_FAULT;
    }
    return countScanned(body, sheet, f, n);
  }

  public int count(int what) {
    switch (what) {
      case 0:
        return bodyCount;
      case 1:
        return cellsOfFirstSheet();
      case 2:
        return tape.length;
      case 3:
        return textsOfLatestBody();
      default:
        return BAD;
    }
  }

  // ---- helpers of the calls

  private Body bodyNumber(int b) {
    return b >= 0 && b < bodyCount && b < MOST_BODIES ? bodies[b] : null;
  }

  /** The body with its points found, which the calls of points and rows need. */
  private Body paintedBody(int b) {
    Body body = bodyNumber(b);
    if (body != null) {
      body.paint();
    }
    return body;
  }

  private Sheet sheetNumber(int k) {
    return k >= 0 && k < SHEET_COUNT ? sheets[k] : null;
  }

  private int cellsOfFirstSheet() {
    Sheet first = sheetNumber(0);
    return first == null || first.isNothing() ? NONE : first.size;
  }

  private int textsOfLatestBody() {
    Body latest = bodyNumber(bodyCount - 1);
    return latest == null ? NONE : latest.texts;
  }

  private static int countScanned(Body body, Sheet sheet, int f, int n) {
    int found = 0;
    for (int i = 0; i < n; i++) {
      int at = f + 3 * i;
      if (!sheet.hasCell(at) || !sheet.hasCell(at + 1) || !sheet.hasCell(at + 2)) {
        return FAULT_BASE - INDEX_FAULT;
      }
      int x = sheet.cell(at);
      int y = sheet.cell(at + 1);
      int z = sheet.cell(at + 2);
      if (!isPoint(x, y, z)) {
        return NO_POINT_BASE - i;
      }
      if (body.has(x, y, z)) {
        found++;
      }
    }
    return found;
  }

  private static boolean isBetween(int v, int least, int most) {
    return v >= least && v <= most;
  }

  private static boolean isNear(int v, int most) {
    return isBetween(v, -most, most);
  }

  private static boolean isPoint(int x, int y, int z) {
    return isNear(x, MOST) && isNear(y, MOST) && isNear(z, MOST);
  }

  private static boolean isStep(int u, int v, int w) {
    boolean moves = u != 0 || v != 0 || w != 0;
    return moves && isNear(u, WIDEST_STEP) && isNear(v, WIDEST_STEP) && isNear(w, WIDEST_STEP);
  }

  private static boolean isLane(int lane) {
    return isBetween(lane, 0, LANE_COUNT - 1);
  }

  /** The place of a row among all; -1 for one that is not in the room. */
  private static int rowPlace(int y, int z) {
    boolean inRoom = y >= LEAST && y <= MOST && z >= LEAST && z <= MOST;
    return inRoom ? (z - LEAST) * SIDE + (y - LEAST) : -1;
  }

  /** The bytes that are still to be told. */
  private static final class Tape {
    private static final int MOST_BYTES = 160;

    private final byte[] bytes = new byte[MOST_BYTES];
    private int length = 0;

    boolean append(long eight) {
      if (length < 0 || length + 8 > MOST_BYTES) {
        return false;
      }
      for (int i = 0; i < 8; i++) {
        bytes[length + i] = (byte) (eight >>> (56 - 8 * i));
      }
      length += 8;
      return true;
    }

    boolean shorten(int n) {
      if (n < 0 || n > length) {
        return false;
      }
      length = n;
      return true;
    }

    /** The byte at a place as 0 to 255; -1 behind the end. */
    int byteAt(int place) {
      return place >= 0 && place < length && place < MOST_BYTES ? bytes[place] & 255 : -1;
    }
  }

  /** Reads one text from a tape; the first fault stops it, all later steps then do nothing. */
  private static final class Reader {
    private static final int NO_TOKEN = 1, MISPLACED = 2, OUT_OF_BOUNDS = 3, TOO_DEEP = 4;
    private static final int AT_END = 0, NAME = 1, NUMBER = 2;
    private static final int DEEPEST_TEXT = 10;
    private static final int MOST_NUMBERS = 6;
    private static final int BOUND = 20;

    private final Tape tape;
    private int place = 0;
    private int token = AT_END;
    private int tokenPlace = 0;
    private int tokenValue = 0;
    private int texts = 0;
    private int fault = 0;
    private int faultPlace = 0;

    Reader(Tape tape) {
      this.tape = tape;
    }

    /** The form that the tape tells; null if there is a fault. */
    Form read() {
      place = 0;
      texts = 0;
      fault = 0;
      faultPlace = 0;
      readToken();
      Form form = readText(1);
      if (fault == 0 && token != AT_END) {
        fail(MISPLACED, tokenPlace);
      }
      return fault == 0 ? form : null;
    }

    private Form readText(int depth) {
      if (fault == 0 && depth > DEEPEST_TEXT) {
        fail(TOO_DEEP, tokenPlace);
      }
      if (fault == 0 && token != NAME) {
        fail(MISPLACED, tokenPlace);
      }
      if (fault != 0) {
        return null;
      }
      int kind = tokenValue;
      texts++;
      readToken();
      int[] numbers = new int[MOST_NUMBERS];
      for (int i = 0; i < MOST_NUMBERS && i < numberCount(kind); i++) {
        // A box may not end below where it begins.
        int least = kind == BOX && i >= 3 ? numbers[i - 3] : leastNumber(kind, i);
        numbers[i] = readNumber(least, BOUND);
      }
      Form first = kind >= OR ? readText(depth + 1) : null;
      Form second = isPair(kind) ? readText(depth + 1) : null;
      return fault == 0 ? formOf(kind, numbers, first, second) : null;
    }

    private static int numberCount(int kind) {
      switch (kind) {
        case BOX:
          return 6;
        case BALL:
        case PLANE:
          return 4;
        case MOVE:
          return 3;
        case REP:
          return 1;
        default:
          return 0;
      }
    }

    private static int leastNumber(int kind, int i) {
      if (kind == REP) {
        return 1;
      }
      return kind == BALL && i == 3 ? 0 : -BOUND;
    }

    private static boolean isPair(int kind) {
      return kind == OR || kind == AND || kind == LESS;
    }

    private static Form formOf(int kind, int[] n, Form first, Form second) {
      switch (kind) {
        case BALL:
          return new Ball(n[0], n[1], n[2], n[3]);
        case BOX:
          return new Box(n[0], n[1], n[2], n[3], n[4], n[5]);
        case PLANE:
          return new Plane(n[0], n[1], n[2], n[3]);
        case OR:
        case AND:
        case LESS:
          return first == null || second == null ? null : new Pair(kind, first, second);
        default:
          return first == null ? null : new Placed(kind, n[0], n[1], n[2], first);
      }
    }

    private int readNumber(int least, int most) {
      if (fault == 0 && token != NUMBER) {
        fail(MISPLACED, tokenPlace);
      }
      if (fault == 0 && (tokenValue < least || tokenValue > most)) {
        fail(OUT_OF_BOUNDS, tokenPlace);
      }
      if (fault != 0) {
        return 0;
      }
      int value = tokenValue;
      readToken();
      return value;
    }

    private void readToken() {
      while (place < Tape.MOST_BYTES && tape.byteAt(place) == ' ') {
        place++;
      }
      tokenPlace = place;
      int first = tape.byteAt(place);
      if (first < 0) {
        token = AT_END;
      } else if (isLetter(first)) {
        readName();
      } else if (isFigure(first) || first == '-') {
        readFigures();
      } else {
        fail(NO_TOKEN, tokenPlace);
      }
    }

    private void readName() {
      while (place < Tape.MOST_BYTES && isLetter(tape.byteAt(place))) {
        place++;
      }
      token = NAME;
      tokenValue = KIND_COUNT;
      for (int kind = 0; kind < KIND_COUNT; kind++) {
        String name = nameOf(kind);
        boolean same = name.length() == place - tokenPlace;
        for (int i = 0; same && i < name.length(); i++) {
          same = name.charAt(i) == tape.byteAt(tokenPlace + i);
        }
        tokenValue = same ? kind : tokenValue;
      }
      if (tokenValue == KIND_COUNT) {
        fail(NO_TOKEN, tokenPlace);
      }
    }

    private void readFigures() {
      boolean below = tape.byteAt(place) == '-';
      int from = below ? place + 1 : place;
      int value = 0;
      place = from;
      while (place < Tape.MOST_BYTES && isFigure(tape.byteAt(place))) {
        // Figures behind the second are a fault in any case: they must not make the value overflow.
        value = place - from < 2 ? value * 10 + (tape.byteAt(place) - '0') : value;
        place++;
      }
      token = NUMBER;
      tokenValue = below ? -value : value;
      if (place == from || place - from > 2) {
        fail(NO_TOKEN, tokenPlace);
      }
    }

    private static String nameOf(int kind) {
      switch (kind) {
        case BALL:
          return "ball";
        case BOX:
          return "box";
        case PLANE:
          return "plane";
        case OR:
          return "or";
        case AND:
          return "and";
        case LESS:
          return "less";
        case MOVE:
          return "move";
        case TURN:
          return "turn";
        case FLIP:
          return "flip";
        default:
          return "rep";
      }
    }

    private static boolean isLetter(int c) {
      return c >= 'a' && c <= 'z';
    }

    private static boolean isFigure(int c) {
      return c >= '0' && c <= '9';
    }

    private void fail(int kind, int where) {
      fault = kind;
      faultPlace = where;
    }
  }

  /** A rule, told by a text; texts are ten deep at most, and so are forms. */
  private abstract static class Form {
    abstract int valueAt(int x, int y, int z);

    /** The low or the high of the span over the block from x, y, z to u, v, w. */
    abstract int bound(int x, int y, int z, int u, int v, int w, boolean high);
  }

  private static final class Ball extends Form {
    private final int x, y, z, r;

    Ball(int x, int y, int z, int r) {
      this.x = x;
      this.y = y;
      this.z = z;
      this.r = r;
    }

    int valueAt(int px, int py, int pz) {
      return (px - x) * (px - x) + (py - y) * (py - y) + (pz - z) * (pz - z) - r * r;
    }

    int bound(int px, int py, int pz, int u, int v, int w, boolean high) {
      int sum = squareBound(px - x, u - x, high);
      sum += squareBound(py - y, v - y, high);
      sum += squareBound(pz - z, w - z, high);
      return sum - r * r;
    }

    private static int squareBound(int from, int to, boolean high) {
      if (high) {
        return Math.max(from * from, to * to);
      }
      return from <= 0 && to >= 0 ? 0 : Math.min(from * from, to * to);
    }
  }

  private static final class Box extends Form {
    private final int x, y, z, u, v, w;

    Box(int x, int y, int z, int u, int v, int w) {
      this.x = x;
      this.y = y;
      this.z = z;
      this.u = u;
      this.v = v;
      this.w = w;
    }

    int valueAt(int px, int py, int pz) {
      int inX = Math.max(x - px, px - u);
      int inY = Math.max(y - py, py - v);
      int inZ = Math.max(z - pz, pz - w);
      return Math.max(inX, Math.max(inY, inZ)) - 1;
    }

    int bound(int px, int py, int pz, int pu, int pv, int pw, boolean high) {
      int inX = high ? Math.max(x - px, pu - u) : Math.max(x - pu, px - u);
      int inY = high ? Math.max(y - py, pv - v) : Math.max(y - pv, py - v);
      int inZ = high ? Math.max(z - pz, pw - w) : Math.max(z - pw, pz - w);
      return Math.max(inX, Math.max(inY, inZ)) - 1;
    }
  }

  private static final class Plane extends Form {
    private final int a, b, c, d;

    Plane(int a, int b, int c, int d) {
      this.a = a;
      this.b = b;
      this.c = c;
      this.d = d;
    }

    int valueAt(int x, int y, int z) {
      return a * x + b * y + c * z - d;
    }

    int bound(int x, int y, int z, int u, int v, int w, boolean high) {
      int inX = high ? Math.max(a * x, a * u) : Math.min(a * x, a * u);
      int inY = high ? Math.max(b * y, b * v) : Math.min(b * y, b * v);
      int inZ = high ? Math.max(c * z, c * w) : Math.min(c * z, c * w);
      return inX + inY + inZ - d;
    }
  }

  /** Two forms joined (or), both at once (and), or the first without the second (less). */
  private static final class Pair extends Form {
    private final int kind;
    private final Form first, second;

    Pair(int kind, Form first, Form second) {
      this.kind = kind;
      this.first = first;
      this.second = second;
    }

    int valueAt(int x, int y, int z) {
      return joined(first.valueAt(x, y, z), second.valueAt(x, y, z));
    }

    int bound(int x, int y, int z, int u, int v, int w, boolean high) {
      // The other sign makes the second's low its high, so less asks it for the other end.
      boolean highOfSecond = (kind == LESS) != high;
      return joined(first.bound(x, y, z, u, v, w, high), second.bound(x, y, z, u, v, w, highOfSecond));
    }

    private int joined(int a, int b) {
      if (kind == OR) {
        return Math.min(a, b);
      }
      return Math.max(a, kind == LESS ? -b : b);
    }
  }

  /** A form moved by x, y, z, turned, flipped, or repeated every x (rep). */
  private static final class Placed extends Form {
    private final int kind, x, y, z;
    private final Form inner;

    Placed(int kind, int x, int y, int z, Form inner) {
      this.kind = kind;
      this.x = x;
      this.y = y;
      this.z = z;
      this.inner = inner;
    }

    int valueAt(int px, int py, int pz) {
      switch (kind) {
        case MOVE:
          return inner.valueAt(px - x, py - y, pz - z);
        case TURN:
          return inner.valueAt(py, pz, px);
        case FLIP:
          return inner.valueAt(-px, py, pz);
        default:
          return inner.valueAt(modulo(px), py, pz);
      }
    }

    int bound(int px, int py, int pz, int u, int v, int w, boolean high) {
      switch (kind) {
        case MOVE:
          return inner.bound(px - x, py - y, pz - z, u - x, v - y, w - z, high);
        case TURN:
          return inner.bound(py, pz, px, v, w, u, high);
        case FLIP:
          return inner.bound(-u, py, pz, -px, v, w, high);
        default:
          return repeatedBound(px, py, pz, u, v, w, high);
      }
    }

    private int repeatedBound(int px, int py, int pz, int u, int v, int w, boolean high) {
      int from = modulo(px);
      int to = modulo(u);
      if (u - px + 1 >= x || to < from) {
        from = 0;
        to = x - 1;
      }
      return inner.bound(from, py, pz, to, v, w, high);
    }

    private int modulo(int px) {
      return x < 1 ? 0 : Math.floorMod(px, x);
    }
  }

  /** A form with its points within, which are found when they are first asked for. */
  private static final class Body {
    private static final int LEAVES = 0, LEAVES_WITHIN = 1, POINTS_WITHIN = 2, DEEPEST = 3, ASKED = 4;
    // The room's sides of 15 are halved to 8, 4, 2 and 1.
    private static final int MOST_PARTINGS = 4;

    private final Form form;
    private final int texts;
    private final int[] rows = new int[ROW_COUNT];
    private boolean painted = false;
    private final int[] partings = new int[5];
    private boolean isParted = false;

    Body(Form form, int texts) {
      this.form = form;
      this.texts = texts;
    }

    boolean has(int x, int y, int z) {
      return isPoint(x, y, z) && form.valueAt(x, y, z) < 0;
    }

    void paint() {
      for (int place = 0; place < ROW_COUNT && !painted; place++) {
        int bits = 0;
        for (int x = LEAST; x <= MOST; x++) {
          if (form.valueAt(x, place % SIDE + LEAST, place / SIDE + LEAST) < 0) {
            bits |= 1 << (x + BIT_OF_NOUGHT);
          }
        }
        rows[place] = bits;
      }
      painted = true;
    }

    /** The points within of one row as bits, once painted; none for a row that is not in the room. */
    int rowAt(int y, int z) {
      int place = rowPlace(y, z);
      return place < 0 || place >= ROW_COUNT ? 0 : rows[place];
    }

    int size() {
      int sum = 0;
      for (int z = LEAST; z <= MOST; z++) {
        sum += sliceSize(z);
      }
      return sum;
    }

    int sliceSize(int z) {
      int sum = 0;
      for (int y = LEAST; y <= MOST; y++) {
        sum += Integer.bitCount(rowAt(y, z));
      }
      return sum;
    }

    /** x, y or z of point number i; BAD_POINT if there are not so many. */
    int coordinate(int i, int what) {
      int left = i;
      for (int z = LEAST; z <= MOST; z++) {
        for (int y = LEAST; y <= MOST; y++) {
          int bits = rowAt(y, z);
          int here = Integer.bitCount(bits);
          if (left < here) {
            return what == 0 ? xOfPoint(bits, left) : what == 1 ? y : z;
          }
          left -= here;
        }
      }
      return BAD_POINT;
    }

    private static int xOfPoint(int bits, int number) {
      int left = bits;
      for (int k = 0; k < number && k < SIDE; k++) {
        left &= left - 1;
      }
      return Integer.numberOfTrailingZeros(left) - BIT_OF_NOUGHT;
    }

    int partedNumber(int what) {
      if (!isParted) {
        partBlock(LEAST, LEAST, LEAST, MOST, MOST, MOST, 0);
        isParted = true;
      }
      return what >= 0 && what < partings.length ? partings[what] : BAD;
    }

    private void partBlock(int x, int y, int z, int u, int v, int w, int depth) {
      if (depth > MOST_PARTINGS) {
        return;
      }
      partings[ASKED]++;
      partings[DEEPEST] = Math.max(partings[DEEPEST], depth);
      boolean inside = form.bound(x, y, z, u, v, w, true) < 0;
      boolean onePoint = x == u && y == v && z == w;
      if (!inside && !onePoint && form.bound(x, y, z, u, v, w, false) < 0) {
        partInTwos(x, y, z, u, v, w, depth);
        return;
      }
      partings[LEAVES]++;
      if (inside) {
        partings[LEAVES_WITHIN]++;
        partings[POINTS_WITHIN] += (u - x + 1) * (v - y + 1) * (w - z + 1);
      }
    }

    private void partInTwos(int x, int y, int z, int u, int v, int w, int depth) {
      int midX = x + (u - x) / 2;
      int midY = y + (v - y) / 2;
      int midZ = z + (w - z) / 2;
      for (int k = 0; k < 8; k++) {
        int fromX = (k & 1) == 0 ? x : midX + 1;
        int fromY = (k & 2) == 0 ? y : midY + 1;
        int fromZ = (k & 4) == 0 ? z : midZ + 1;
        // A side of one whole number has no upper part.
        if (fromX <= u && fromY <= v && fromZ <= w) {
          int toX = (k & 1) == 0 ? midX : u;
          int toY = (k & 2) == 0 ? midY : v;
          int toZ = (k & 4) == 0 ? midZ : w;
          partBlock(fromX, fromY, fromZ, toX, toY, toZ, depth + 1);
        }
      }
    }

    int squares() {
      int sum = 0;
      for (int z = LEAST; z <= MOST; z++) {
        sum += outline(z);
        for (int y = LEAST; y <= MOST; y++) {
          int here = rowAt(y, z);
          sum += Integer.bitCount(here & ~rowAt(y, z - 1)) + Integer.bitCount(here & ~rowAt(y, z + 1));
        }
      }
      return sum;
    }

    int outline(int z) {
      int sum = 0;
      for (int y = LEAST; y <= MOST; y++) {
        int here = rowAt(y, z);
        sum += Integer.bitCount(here & ~(here << 1)) + Integer.bitCount(here & ~(here >> 1));
        sum += Integer.bitCount(here & ~rowAt(y - 1, z)) + Integer.bitCount(here & ~rowAt(y + 1, z));
      }
      return sum;
    }

    /** Edges of the skin; of four squares alone, if so asked. Each is met from its least corner. */
    int edges(boolean ofFour) {
      int sum = 0;
      for (int z = LEAST - 1; z <= MOST; z++) {
        for (int y = LEAST - 1; y <= MOST; y++) {
          int here = rowAt(y, z);
          int beside = rowAt(y + 1, z);
          int above = rowAt(y, z + 1);
          sum += edgesRound(here, beside, rowAt(y + 1, z + 1), above, ofFour);
          sum += edgesRound(here, here >> 1, above >> 1, above, ofFour);
          sum += edgesRound(here, here >> 1, beside >> 1, beside, ofFour);
        }
      }
      return sum;
    }

    /** Four points stand round an edge, in turn: where two neighbours differ, there is a square. */
    private static int edgesRound(int a, int b, int c, int d, boolean ofFour) {
      int squares = ofFour ? (a ^ b) & (b ^ c) & (c ^ d) : (a | b | c | d) & ~(a & b & c & d);
      return Integer.bitCount(squares);
    }

    /** A corner is of the skin where the eight points round it are not alike. */
    int corners() {
      int sum = 0;
      for (int z = LEAST - 1; z <= MOST; z++) {
        for (int y = LEAST - 1; y <= MOST; y++) {
          int here = rowAt(y, z);
          int beside = rowAt(y + 1, z);
          int above = rowAt(y, z + 1);
          int across = rowAt(y + 1, z + 1);
          int any = here | beside | above | across;
          int all = here & beside & above & across;
          sum += Integer.bitCount((any | any >> 1) & ~(all & all >> 1));
        }
      }
      return sum;
    }

    int thinPoints(int way) {
      int sum = 0;
      for (int z = LEAST; z <= MOST; z++) {
        for (int y = LEAST; y <= MOST; y++) {
          int here = rowAt(y, z);
          int sides = way == 0 ? here << 1 | here >> 1
              : way == 1 ? rowAt(y - 1, z) | rowAt(y + 1, z)
              : rowAt(y, z - 1) | rowAt(y, z + 1);
          sum += Integer.bitCount(here & ~sides);
        }
      }
      return sum;
    }

    int hangingPoints(int above) {
      int sum = 0;
      for (int z = above + 1; z <= MOST; z++) {
        for (int y = LEAST; y <= MOST; y++) {
          sum += Integer.bitCount(rowAt(y, z) & ~rowAt(y, z - 1));
        }
      }
      return sum;
    }

    int shared(Body other) {
      int sum = 0;
      for (int z = LEAST; z <= MOST; z++) {
        for (int y = LEAST; y <= MOST; y++) {
          sum += Integer.bitCount(rowAt(y, z) & other.rowAt(y, z));
        }
      }
      return sum;
    }
  }

  /** Takes pieces that hang together by sides out of a set of points, the least point first. */
  private static final class Flood {
    private final int[] left = new int[ROW_COUNT];
    // Rows ahead of this one have nothing left, so the search need not begin with them.
    private int leastRow = 0;
    // Points that were taken and whose sides are still to be looked at, and the rows that have some.
    private final int[] pending = new int[ROW_COUNT];
    private final int[] stack = new int[ROW_COUNT];
    private int stacked = 0;
    private int pieceSize = 0;
    private boolean pieceAtEnd = false;

    void loadWithin(Body body) {
      leastRow = 0;
      for (int place = 0; place < ROW_COUNT; place++) {
        left[place] = body.rowAt(yOf(place), zOf(place));
      }
    }

    void loadWithout(Body body) {
      leastRow = 0;
      for (int place = 0; place < ROW_COUNT; place++) {
        left[place] = FULL_ROW & ~body.rowAt(yOf(place), zOf(place));
      }
    }

    void loadSlice(Body body, int z) {
      leastRow = 0;
      for (int place = 0; place < ROW_COUNT; place++) {
        left[place] = zOf(place) == z ? body.rowAt(yOf(place), z) : 0;
      }
    }

    int countPieces() {
      int pieces = 0;
      while (pieces < POINT_COUNT && takePiece()) {
        pieces++;
      }
      return pieces;
    }

    int greatestPiece() {
      int greatest = 0;
      for (int k = 0; k < POINT_COUNT && takePiece(); k++) {
        greatest = Math.max(greatest, pieceSize);
      }
      return greatest;
    }

    int countShutPieces() {
      int sum = 0;
      for (int k = 0; k < POINT_COUNT && takePiece(); k++) {
        sum += pieceAtEnd ? 0 : 1;
      }
      return sum;
    }

    int countShutPoints() {
      int sum = 0;
      for (int k = 0; k < POINT_COUNT && takePiece(); k++) {
        sum += pieceAtEnd ? 0 : pieceSize;
      }
      return sum;
    }

    /** The number of the piece that a point is in; NONE if it is in none. */
    int pieceOf(int x, int y, int z) {
      if (!isLeft(x, y, z)) {
        return NONE;
      }
      int pieces = 0;
      while (pieces < POINT_COUNT && takePiece() && isLeft(x, y, z)) {
        pieces++;
      }
      return pieces;
    }

    private boolean isLeft(int x, int y, int z) {
      int place = rowPlace(y, z);
      return place >= 0 && place < ROW_COUNT && (left[place] & 1 << (x + BIT_OF_NOUGHT)) != 0;
    }

    /** Takes the piece of the least point that is left; false if none is. */
    private boolean takePiece() {
      while (leastRow < ROW_COUNT && left[leastRow] == 0) {
        leastRow++;
      }
      if (leastRow >= ROW_COUNT) {
        return false;
      }
      stacked = 0;
      pieceSize = 0;
      pieceAtEnd = false;
      take(yOf(leastRow), zOf(leastRow), left[leastRow] & -left[leastRow]);
      // Each turn settles one point at least.
      for (int turn = 0; turn < POINT_COUNT && stacked > 0 && stacked <= ROW_COUNT; turn++) {
        stacked--;
        spread(stack[stacked]);
      }
      return true;
    }

    private void spread(int place) {
      if (place < 0 || place >= ROW_COUNT) {
        return;
      }
      int bits = grown(pending[place], left[place]);
      left[place] &= ~bits;
      pending[place] = 0;
      int y = yOf(place);
      int z = zOf(place);
      pieceSize += Integer.bitCount(bits);
      pieceAtEnd = pieceAtEnd || isAtEnd(y) || isAtEnd(z) || (bits & ROW_ENDS) != 0;
      take(y - 1, z, bits);
      take(y + 1, z, bits);
      take(y, z - 1, bits);
      take(y, z + 1, bits);
    }

    /** The bits with all those of a row that hang together with them. */
    private static int grown(int bits, int row) {
      int grown = bits;
      for (int k = 1; k < SIDE; k++) {
        grown |= (grown << 1 | grown >> 1) & row;
      }
      return grown;
    }

    private void take(int y, int z, int bits) {
      int place = rowPlace(y, z);
      if (place < 0 || place >= ROW_COUNT || (left[place] & bits) == 0) {
        return;
      }
      // A row stands on the stack once, however many points it has pending.
      if (pending[place] == 0 && stacked >= 0 && stacked < ROW_COUNT) {
        stack[stacked] = place;
        stacked++;
      }
      pending[place] |= left[place] & bits;
      left[place] &= ~bits;
    }

    private static boolean isAtEnd(int v) {
      return v == LEAST || v == MOST;
    }

    private static int yOf(int place) {
      return place % SIDE + LEAST;
    }

    private static int zOf(int place) {
      return place / SIDE + LEAST;
    }
  }

  /** A row of cells of one lane, or nothing. */
  private static final class Sheet {
    private static final int NOTHING = -1, BYTES = 0, SHORTS = 1;

    private final int[] cells = new int[MOST_CELLS];
    private int lane = NOTHING;
    private int size = 0;

    boolean isNothing() {
      return lane == NOTHING;
    }

    void renew(int newLane, int newSize) {
      for (int i = 0; i < MOST_CELLS; i++) {
        cells[i] = 0;
      }
      lane = newLane;
      size = newSize;
    }

    boolean hasCell(int i) {
      return i >= 0 && i < size && i < MOST_CELLS;
    }

    int cell(int i) {
      return hasCell(i) ? cells[i] : 0;
    }

    boolean put(int i, int v) {
      if (!hasCell(i)) {
        return false;
      }
      cells[i] = lane == BYTES ? (byte) v : lane == SHORTS ? (short) v : v;
      return true;
    }
  }
}
