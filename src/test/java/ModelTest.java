import java.util.Random;

/** Random runs of calls (always the same ones), answered by the program and by the naive model. */
public final class ModelTest {
  // A step makes 24 calls at most: 21 feeds, end, body and fault.
  private static final int RUNS = 60, CALLS = 512, CALLS_OF_A_STEP = 24;
  private static final String[] PIECES = {
    "ball", "box", "plane", "or", "and", "less", "move", "turn", "flip", "rep", "-", "0", "7", "20", "-20", "21",
    "-21", "100", " ", "  ", "x", "A", "ballx", "\t", "\u0000", "\u00ff", "5"
  };

  private final Random random;
  private final int run;
  private final SignSolids real = new SignSolids();
  private final NaiveSolids naive = new NaiveSolids();
  private int calls = 0;

  private ModelTest(int run) {
    this.run = run;
    random = new Random(7000 + run);
  }

  public static void main(String[] args) {
    for (int run = 0; run < RUNS; run++) {
      ModelTest test = new ModelTest(run);
      while (test.calls + CALLS_OF_A_STEP <= CALLS) {
        test.step();
      }
    }
    Check.finish("ModelTest");
  }

  private int among(int least, int most) {
    return least + random.nextInt(most - least + 1);
  }

  private boolean seldom() {
    return random.nextInt(25) == 0;
  }

  /** Mostly a number from least to most, now and then one right outside or far away. */
  private int about(int least, int most) {
    if (!seldom()) return among(least, most);
    int[] odd = {least - 1, most + 1, least, most, Integer.MIN_VALUE, Integer.MAX_VALUE, -1, 0};
    return odd[random.nextInt(odd.length)];
  }

  private int someBody() {
    return about(0, Math.max(0, naive.told.size() - 1));
  }

  private int coordinate() {
    return about(-7, 7);
  }

  // ---- texts

  private String number(int least, int most) {
    int v = seldom() && random.nextBoolean() ? among(least - 2, most + 2) : among(least, most);
    String figures = Integer.toString(Math.abs(v));
    return (v < 0 || (v == 0 && seldom()) ? "-" : "") + (figures.length() == 1 && seldom() ? "0" : "") + figures;
  }

  private String blank() {
    return seldom() ? "  " : " ";
  }

  private String numbers(int n, int most) {
    StringBuilder all = new StringBuilder();
    for (int i = 0; i < n; i++) all.append(blank()).append(number(-most, most));
    return all.toString();
  }

  private String text(int depth) {
    int kind = depth >= 10 || random.nextInt(3) == 0 ? among(0, 2) : among(0, 9);
    switch (kind) {
      case 0:
        return "ball" + numbers(3, 9) + blank() + number(0, 9);
      case 1: {
        int[] c = {among(-9, 6), among(-9, 6), among(-9, 6)};
        StringBuilder box = new StringBuilder("box");
        for (int v : c) box.append(blank()).append(v);
        for (int v : c) box.append(blank()).append(seldom() ? v - 1 : v + among(0, 9));
        return box.toString();
      }
      case 2:
        return "plane" + numbers(4, 5);
      case 3:
        return "or" + blank() + text(depth + 1) + (random.nextInt(5) == 0 ? "" : blank()) + text(depth + 1);
      case 4:
        return "and" + blank() + text(depth + 1) + blank() + text(depth + 1);
      case 5:
        return "less" + blank() + text(depth + 1) + blank() + text(depth + 1);
      case 6:
        return "move" + numbers(3, 6) + blank() + text(depth + 1);
      case 7:
        return "turn" + blank() + text(depth + 1);
      case 8:
        return "flip" + blank() + text(depth + 1);
      default:
        return "rep" + blank() + number(1, random.nextBoolean() ? 5 : 20) + blank() + text(depth + 1);
    }
  }

  private String spoilt(String text) {
    int at = random.nextInt(text.length() + 1);
    String piece = PIECES[random.nextInt(PIECES.length)];
    switch (random.nextInt(3)) {
      case 0:
        return text.substring(0, at);
      case 1:
        return text.substring(0, at) + piece + text.substring(at);
      default:
        return text.substring(0, at) + piece + text.substring(Math.min(text.length(), at + 1));
    }
  }

  private String chain() {
    StringBuilder all = new StringBuilder();
    for (int i = among(7, 11); i > 0; i--) all.append(random.nextBoolean() ? "turn " : "flip ");
    return all.append(random.nextInt(4) == 0 ? PIECES[random.nextInt(PIECES.length)] : text(10)).toString();
  }

  private void tell() {
    String text = random.nextInt(8) == 0 ? chain() : text(1);
    while (text.length() > 160) text = text(1);
    if (random.nextInt(4) == 0) text = spoilt(text);
    byte[] bytes = text.getBytes(java.nio.charset.StandardCharsets.ISO_8859_1);
    for (int at = 0; at < bytes.length; at += 8) {
      feed(Check.eight(bytes, at));
    }
    int n = seldom() ? about(0, 160) : bytes.length;
    due("end(" + n + ")", real.end(n), naive.end(n));
    due("body() of '" + text + "'", real.body(), naive.body());
    due("fault() of '" + text + "'", real.fault(), naive.fault());
  }

  private void feed(long v) {
    due("feed(" + v + ")", real.feed(v), naive.feed(v));
  }

  private void due(String call, int got, int want) {
    calls++;
    Check.due("run " + run + ": " + call, got, want);
  }

  // ---- calls

  private void step() {
    if (naive.told.isEmpty() && !seldom()) {
      tell();
      return;
    }
    int b = someBody();
    switch (random.nextInt(26)) {
      case 0:
      case 1:
        tell();
        break;
      case 2:
        if (seldom()) feed(random.nextLong());
        break;
      case 3:
        due("drop()", real.drop(), naive.drop());
        break;
      case 4:
        int what = about(0, 3);
        due("count(" + what + ")", real.count(what), naive.count(what));
        break;
      case 5:
      case 6:
      case 7:
      case 8:
        sheets(b);
        break;
      case 9:
      case 10:
        rules(b);
        break;
      default:
        points(b);
    }
  }

  private void rules(int b) {
    if (random.nextBoolean()) {
      int most = random.nextBoolean() ? 1000 : 10;
      int x = about(-most, most), y = about(-most, most), z = about(-most, most);
      due("rule(" + b + ", " + x + ", " + y + ", " + z + ")", real.rule(b, x, y, z), naive.rule(b, x, y, z));
      return;
    }
    int x = coordinate(), y = coordinate(), z = coordinate();
    int u = about(inRoom(x), 7), v = about(inRoom(y), 7), w = about(inRoom(z), 7);
    for (boolean high : new boolean[] {false, true}) {
      String call = "span(" + b + ", " + x + ", " + y + ", " + z + ", " + u + ", " + v + ", " + w + ", " + high + ")";
      due(call, real.span(b, x, y, z, u, v, w, high), naive.span(b, x, y, z, u, v, w, high));
    }
  }

  private static int inRoom(int v) {
    return Math.max(-7, Math.min(7, v));
  }

  private void sheets(int b) {
    int k = about(0, 3), lane = about(0, 2);
    switch (random.nextInt(8)) {
      case 0:
        int size = random.nextBoolean() ? about(0, 64) : about(3, 12);
        due("sheet(" + k + ", " + lane + ", " + size + ")", real.sheet(k, lane, size), naive.sheet(k, lane, size));
        break;
      case 1:
      case 2:
      case 3:
      case 4:
        int i = about(0, random.nextBoolean() ? 64 : 12);
        int v = random.nextInt(8) == 0 ? among(-9, 9) + (among(-3, 3) << (random.nextBoolean() ? 8 : 16)) : about(-7, 7);
        due("lay(" + k + ", " + i + ", " + v + ")", real.lay(k, i, v), naive.lay(k, i, v));
        break;
      default:
        int f = about(0, 12), n = random.nextBoolean() ? about(0, 20) : about(0, 3);
        String call = "scan(" + b + ", " + k + ", " + lane + ", " + f + ", " + n + ")";
        due(call, real.scan(b, k, lane, f, n), naive.scan(b, k, lane, f, n));
    }
  }

  private void points(int b) {
    int x = coordinate(), y = coordinate(), z = coordinate(), what = about(0, 3), c = someBody();
    String whatOf = "(" + b + ", " + what + ")";
    switch (random.nextInt(11)) {
      case 0:
        int number = about(0, 4);
        due("parted(" + b + ", " + number + ")", real.parted(b, number), naive.parted(b, number));
        break;
      case 1:
        due("volume(" + b + ")", real.volume(b), naive.volume(b));
        break;
      case 2:
        int i = about(0, random.nextBoolean() ? 3375 : 200);
        due("point(" + b + ", " + i + ", " + what + ")", real.point(b, i, what), naive.point(b, i, what));
        break;
      case 3:
        due("skin" + whatOf, real.skin(b, what), naive.skin(b, what));
        break;
      case 4:
        due("parts" + whatOf, real.parts(b, what), naive.parts(b, what));
        break;
      case 5:
        due("part(" + b + ", " + x + ", " + y + ", " + z + ")", real.part(b, x, y, z), naive.part(b, x, y, z));
        break;
      case 6:
        due("slice(" + b + ", " + z + ", " + what + ")", real.slice(b, z, what), naive.slice(b, z, what));
        break;
      case 7:
        due("thin" + whatOf, real.thin(b, what), naive.thin(b, what));
        break;
      case 8:
        due("overhang(" + b + ", " + z + ")", real.overhang(b, z), naive.overhang(b, z));
        break;
      case 9:
        due("both(" + b + ", " + c + ", " + what + ")", real.both(b, c, what), naive.both(b, c, what));
        break;
      default:
        int u = about(-3, 3), v = about(-3, 3), w = about(-3, 3);
        String call = "ray(" + b + ", " + x + ", " + y + ", " + z + ", " + u + ", " + v + ", " + w + ")";
        due(call, real.ray(b, x, y, z, u, v, w), naive.ray(b, x, y, z, u, v, w));
    }
  }
}
