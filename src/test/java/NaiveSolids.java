import java.util.ArrayList;
import java.util.HashMap;
import java.util.HashSet;
import java.util.List;
import java.util.Map;
import java.util.Set;

/** The document once more, as slow and as literal as can be: sets of points, no bits, no keeping of answers. */
final class NaiveSolids {
  static final int BAD = -1, FULL = -3, NONE = -4;

  record P(int x, int y, int z) {
    P step(int u, int v, int w) {
      return new P(x + u, y + v, z + w);
    }

    boolean inRoom() {
      return Math.abs(x) <= 7 && Math.abs(y) <= 7 && Math.abs(z) <= 7;
    }
  }

  record Span(int low, int high) {}

  interface Rule {
    int at(int x, int y, int z);

    Span over(P least, P most);
  }

  static final class Fault extends RuntimeException {
    private static final long serialVersionUID = 1;
    final int kind, place;

    Fault(int kind, int place) {
      this.kind = kind;
      this.place = place;
    }
  }

  record Told(Rule rule, int texts) {
    boolean within(P p) {
      return p.inRoom() && rule.at(p.x, p.y, p.z) < 0;
    }
  }

  final List<Byte> tape = new ArrayList<>();
  final List<Told> told = new ArrayList<>();
  final Object[] sheets = new Object[4];
  int lastFault = 0;

  // ---- reading

  record Token(int place, String name, Integer number) {
    boolean isEnd() {
      return name == null && number == null;
    }
  }

  static final Set<String> NAMES =
      Set.of("ball", "box", "plane", "or", "and", "less", "move", "turn", "flip", "rep");

  static final class Parser {
    final String text;
    int at = 0, texts = 0;
    Token next;

    Parser(String text) {
      this.text = text;
      next = scan();
    }

    Token scan() {
      while (at < text.length() && text.charAt(at) == ' ') at++;
      int from = at;
      if (at == text.length()) return new Token(at, null, null);
      java.util.regex.Matcher name = java.util.regex.Pattern.compile("[a-z]+").matcher(text).region(at, text.length());
      if (name.lookingAt()) {
        at = name.end();
        if (!NAMES.contains(name.group())) throw new Fault(1, from);
        return new Token(from, name.group(), null);
      }
      java.util.regex.Matcher number = java.util.regex.Pattern.compile("-?[0-9]+").matcher(text).region(at, text.length());
      if (number.lookingAt()) {
        at = number.end();
        if (number.group().replace("-", "").length() > 2) throw new Fault(1, from);
        return new Token(from, null, Integer.valueOf(number.group()));
      }
      throw new Fault(1, from);
    }

    int number(int least, int most) {
      if (next.number == null) throw new Fault(2, next.place);
      int v = next.number;
      if (v < least || v > most) throw new Fault(3, next.place);
      next = scan();
      return v;
    }

    int number() {
      return number(-20, 20);
    }

    Rule rule(int depth) {
      if (depth > 10) throw new Fault(4, next.place);
      if (next.name == null) throw new Fault(2, next.place);
      String name = next.name;
      texts++;
      next = scan();
      switch (name) {
        case "ball": {
          int x = number(), y = number(), z = number(), r = number(0, 20);
          return ball(x, y, z, r);
        }
        case "box": {
          int x = number(), y = number(), z = number(), u = number(x, 20), v = number(y, 20), w = number(z, 20);
          return box(x, y, z, u, v, w);
        }
        case "plane": {
          int a = number(), b = number(), c = number(), d = number();
          return plane(a, b, c, d);
        }
        case "or":
        case "and":
        case "less": {
          Rule first = rule(depth + 1), second = rule(depth + 1);
          return pair(name, first, second);
        }
        case "move": {
          int x = number(), y = number(), z = number();
          return move(x, y, z, rule(depth + 1));
        }
        case "turn":
          return turn(rule(depth + 1));
        case "flip":
          return flip(rule(depth + 1));
        default: {
          int n = number(1, 20);
          return rep(n, rule(depth + 1));
        }
      }
    }

    Told whole() {
      Rule rule = rule(1);
      if (!next.isEnd()) throw new Fault(2, next.place);
      return new Told(rule, texts);
    }
  }

  // ---- rules

  static int modulo(int x, int n) {
    int m = x;
    while (m < 0) m += n;
    while (m >= n) m -= n;
    return m;
  }

  static Rule ball(int x, int y, int z, int r) {
    return new Rule() {
      public int at(int px, int py, int pz) {
        return (px - x) * (px - x) + (py - y) * (py - y) + (pz - z) * (pz - z) - r * r;
      }

      public Span over(P a, P b) {
        int[] low = {1 << 30, 1 << 30, 1 << 30}, high = {0, 0, 0};
        for (int p = a.x; p <= b.x; p++) note(low, high, 0, (p - x) * (p - x));
        for (int p = a.y; p <= b.y; p++) note(low, high, 1, (p - y) * (p - y));
        for (int p = a.z; p <= b.z; p++) note(low, high, 2, (p - z) * (p - z));
        return new Span(low[0] + low[1] + low[2] - r * r, high[0] + high[1] + high[2] - r * r);
      }

      void note(int[] low, int[] high, int k, int square) {
        low[k] = Math.min(low[k], square);
        high[k] = Math.max(high[k], square);
      }
    };
  }

  static int greatest(int... all) {
    return java.util.Arrays.stream(all).max().getAsInt();
  }

  static int least(int... all) {
    return java.util.Arrays.stream(all).min().getAsInt();
  }

  static Rule box(int x, int y, int z, int u, int v, int w) {
    return new Rule() {
      public int at(int px, int py, int pz) {
        return greatest(x - px, px - u, y - py, py - v, z - pz, pz - w) - 1;
      }

      public Span over(P a, P b) {
        return new Span(
            greatest(x - b.x, a.x - u, y - b.y, a.y - v, z - b.z, a.z - w) - 1,
            greatest(x - a.x, b.x - u, y - a.y, b.y - v, z - a.z, b.z - w) - 1);
      }
    };
  }

  static Rule plane(int a, int b, int c, int d) {
    return new Rule() {
      public int at(int x, int y, int z) {
        return a * x + b * y + c * z - d;
      }

      public Span over(P p, P q) {
        return new Span(
            least(a * p.x, a * q.x) + least(b * p.y, b * q.y) + least(c * p.z, c * q.z) - d,
            greatest(a * p.x, a * q.x) + greatest(b * p.y, b * q.y) + greatest(c * p.z, c * q.z) - d);
      }
    };
  }

  static Rule pair(String name, Rule first, Rule second) {
    return new Rule() {
      int join(int one, int other) {
        return name.equals("or") ? Math.min(one, other) : Math.max(one, other);
      }

      public int at(int x, int y, int z) {
        int other = second.at(x, y, z);
        return join(first.at(x, y, z), name.equals("less") ? -other : other);
      }

      public Span over(P a, P b) {
        Span one = first.over(a, b), other = second.over(a, b);
        if (name.equals("less")) other = new Span(-other.high, -other.low);
        return new Span(join(one.low, other.low), join(one.high, other.high));
      }
    };
  }

  static Rule move(int x, int y, int z, Rule inner) {
    return new Rule() {
      public int at(int px, int py, int pz) {
        return inner.at(px - x, py - y, pz - z);
      }

      public Span over(P a, P b) {
        return inner.over(a.step(-x, -y, -z), b.step(-x, -y, -z));
      }
    };
  }

  static Rule turn(Rule inner) {
    return new Rule() {
      public int at(int x, int y, int z) {
        return inner.at(y, z, x);
      }

      public Span over(P a, P b) {
        return inner.over(new P(a.y, a.z, a.x), new P(b.y, b.z, b.x));
      }
    };
  }

  static Rule flip(Rule inner) {
    return new Rule() {
      public int at(int x, int y, int z) {
        return inner.at(-x, y, z);
      }

      public Span over(P a, P b) {
        return inner.over(new P(-b.x, a.y, a.z), new P(-a.x, b.y, b.z));
      }
    };
  }

  static Rule rep(int n, Rule inner) {
    return new Rule() {
      public int at(int x, int y, int z) {
        return inner.at(modulo(x, n), y, z);
      }

      public Span over(P a, P b) {
        int from = modulo(a.x, n), to = modulo(b.x, n);
        boolean whole = b.x - a.x + 1 >= n || to < from;
        return inner.over(new P(whole ? 0 : from, a.y, a.z), new P(whole ? n - 1 : to, b.y, b.z));
      }
    };
  }

  // ---- the calls

  int feed(long v) {
    if (tape.size() + 8 > 160) return FULL;
    for (byte b : java.nio.ByteBuffer.allocate(8).putLong(v).array()) tape.add(b);
    return tape.size();
  }

  int end(int n) {
    int had = tape.size();
    if (n < 0 || n > had) return BAD;
    tape.subList(n, had).clear();
    return had;
  }

  int body() {
    if (told.size() == 8) return FULL;
    StringBuilder text = new StringBuilder();
    for (byte b : tape) text.append((char) (b & 255));
    tape.clear();
    lastFault = 0;
    try {
      told.add(new Parser(text.toString()).whole());
      return told.size() - 1;
    } catch (Fault f) {
      lastFault = f.kind;
      return -10 - f.place;
    }
  }

  int fault() {
    return lastFault;
  }

  int drop() {
    if (told.isEmpty()) return NONE;
    told.remove(told.size() - 1);
    return told.size();
  }

  boolean noBody(int b) {
    return b < 0 || b >= told.size();
  }

  static boolean out(int v, int most) {
    return v < -most || v > most;
  }

  int rule(int b, int x, int y, int z) {
    if (noBody(b) || out(x, 1000) || out(y, 1000) || out(z, 1000)) return -1000000000;
    return told.get(b).rule.at(x, y, z);
  }

  int span(int b, int x, int y, int z, int u, int v, int w, boolean high) {
    if (noBody(b) || !isPoint(x, y, z) || !isPoint(u, v, w)) return -1000000000;
    if (u < x || v < y || w < z) return -1000000000;
    Span span = told.get(b).rule.over(new P(x, y, z), new P(u, v, w));
    return high ? span.high : span.low;
  }

  static boolean isPoint(int x, int y, int z) {
    return !out(x, 7) && !out(y, 7) && !out(z, 7);
  }

  record Block(P least, P most, int depth) {}

  int parted(int b, int what) {
    if (noBody(b) || what < 0 || what > 4) return BAD;
    int[] sums = new int[5];
    ArrayList<Block> open = new ArrayList<>(List.of(new Block(new P(-7, -7, -7), new P(7, 7, 7), 0)));
    while (!open.isEmpty()) {
      Block k = open.remove(open.size() - 1);
      Span span = told.get(b).rule.over(k.least, k.most);
      sums[4]++;
      sums[3] = Math.max(sums[3], k.depth);
      boolean one = k.least.equals(k.most);
      if (span.high < 0 || span.low >= 0 || one) {
        sums[0]++;
        if (span.high < 0) {
          sums[1]++;
          sums[2] += (k.most.x - k.least.x + 1) * (k.most.y - k.least.y + 1) * (k.most.z - k.least.z + 1);
        }
        continue;
      }
      for (int[] x : halves(k.least.x, k.most.x)) {
        for (int[] y : halves(k.least.y, k.most.y)) {
          for (int[] z : halves(k.least.z, k.most.z)) {
            open.add(new Block(new P(x[0], y[0], z[0]), new P(x[1], y[1], z[1]), k.depth + 1));
          }
        }
      }
    }
    return sums[what];
  }

  static int[][] halves(int from, int to) {
    int all = to - from + 1;
    if (all == 1) return new int[][] {{from, to}};
    int lower = all - all / 2;
    return new int[][] {{from, from + lower - 1}, {from + lower, to}};
  }

  List<P> points(int b, boolean within) {
    List<P> all = new ArrayList<>();
    for (int z = -7; z <= 7; z++) {
      for (int y = -7; y <= 7; y++) {
        for (int x = -7; x <= 7; x++) {
          P p = new P(x, y, z);
          if (told.get(b).within(p) == within) all.add(p);
        }
      }
    }
    return all;
  }

  int volume(int b) {
    return noBody(b) ? BAD : points(b, true).size();
  }

  int point(int b, int i, int what) {
    if (noBody(b) || what < 0 || what > 2) return -100;
    List<P> all = points(b, true);
    if (i < 0 || i >= all.size()) return -100;
    P p = all.get(i);
    return new int[] {p.x, p.y, p.z}[what];
  }

  static final int[][] SIDES = {{1, 0, 0}, {-1, 0, 0}, {0, 1, 0}, {0, -1, 0}, {0, 0, 1}, {0, 0, -1}};

  static P side(P p, int[] s) {
    return p.step(s[0], s[1], s[2]);
  }

  int skin(int b, int what) {
    if (noBody(b) || what < 0 || what > 3) return BAD;
    int squares = 0;
    Map<P, Integer> edges = new HashMap<>();
    Set<P> corners = new HashSet<>();
    for (P p : points(b, true)) {
      for (int[] s : SIDES) {
        if (told.get(b).within(side(p, s))) continue;
        squares++;
        // In half steps the square's middle is at 2 p + s; its corners and edges lie round it.
        P middle = new P(2 * p.x + s[0], 2 * p.y + s[1], 2 * p.z + s[2]);
        for (int i = -1; i <= 1; i++) {
          for (int j = -1; j <= 1; j++) {
            P at = s[0] != 0 ? middle.step(0, i, j) : s[1] != 0 ? middle.step(i, 0, j) : middle.step(i, j, 0);
            if (i != 0 && j != 0) corners.add(at);
            else if (i != 0 || j != 0) edges.merge(at, 1, Integer::sum);
          }
        }
      }
    }
    int four = 0;
    for (int n : edges.values()) if (n == 4) four++;
    return new int[] {squares, edges.size(), corners.size(), four}[what];
  }

  /** Pieces in the order of their least points. */
  static List<Set<P>> pieces(List<P> points) {
    Set<P> left = new HashSet<>(points);
    List<Set<P>> all = new ArrayList<>();
    for (P p : points) {
      if (!left.contains(p)) continue;
      Set<P> piece = new HashSet<>();
      ArrayList<P> open = new ArrayList<>(List.of(p));
      left.remove(p);
      while (!open.isEmpty()) {
        P q = open.remove(open.size() - 1);
        piece.add(q);
        for (int[] s : SIDES) if (left.remove(side(q, s))) open.add(side(q, s));
      }
      all.add(piece);
    }
    return all;
  }

  int parts(int b, int what) {
    if (noBody(b) || what < 0 || what > 3) return BAD;
    int greatest = 0, hollows = 0, hollowPoints = 0;
    List<Set<P>> parts = pieces(points(b, true));
    for (Set<P> part : parts) greatest = Math.max(greatest, part.size());
    for (Set<P> piece : pieces(points(b, false))) {
      boolean end = false;
      for (P p : piece) end |= Math.abs(p.x) == 7 || Math.abs(p.y) == 7 || Math.abs(p.z) == 7;
      if (!end) {
        hollows++;
        hollowPoints += piece.size();
      }
    }
    return new int[] {parts.size(), hollows, greatest, hollowPoints}[what];
  }

  int part(int b, int x, int y, int z) {
    if (noBody(b) || !isPoint(x, y, z)) return BAD;
    List<Set<P>> parts = pieces(points(b, true));
    for (int k = 0; k < parts.size(); k++) if (parts.get(k).contains(new P(x, y, z))) return k;
    return NONE;
  }

  int slice(int b, int z, int what) {
    if (noBody(b) || out(z, 7) || what < 0 || what > 2) return BAD;
    List<P> all = points(b, true);
    all.removeIf(p -> p.z != z);
    int outline = 0;
    for (P p : all) for (int s = 0; s < 4; s++) if (!told.get(b).within(side(p, SIDES[s]))) outline++;
    return new int[] {all.size(), outline, pieces(all).size()}[what];
  }

  int thin(int b, int way) {
    if (noBody(b) || way < 0 || way > 2) return BAD;
    int sum = 0;
    for (P p : points(b, true)) {
      if (!told.get(b).within(side(p, SIDES[2 * way])) && !told.get(b).within(side(p, SIDES[2 * way + 1]))) sum++;
    }
    return sum;
  }

  int overhang(int b, int z) {
    if (noBody(b) || out(z, 7)) return BAD;
    int sum = 0;
    for (P p : points(b, true)) if (p.z > z && !told.get(b).within(p.step(0, 0, -1))) sum++;
    return sum;
  }

  int both(int a, int b, int what) {
    if (noBody(a) || noBody(b) || what < 0 || what > 3) return BAD;
    Set<P> first = new HashSet<>(points(a, true)), second = new HashSet<>(points(b, true));
    Set<P> shared = new HashSet<>(first);
    shared.retainAll(second);
    int contains = first.containsAll(second) ? 1 : 0;
    return new int[] {shared.size(), first.size() - shared.size(), second.size() - shared.size(), contains}[what];
  }

  int ray(int b, int x, int y, int z, int u, int v, int w) {
    if (noBody(b) || !isPoint(x, y, z) || out(u, 3) || out(v, 3) || out(w, 3)) return BAD;
    if (u == 0 && v == 0 && w == 0) return BAD;
    int steps = 0;
    for (P p = new P(x, y, z); p.inRoom(); p = p.step(u, v, w)) {
      if (told.get(b).within(p)) return steps;
      steps++;
    }
    return NONE;
  }

  // Sheets here are true rows, and their faults are those that the machine throws.

  int sheet(int k, int lane, int n) {
    if (k < 0 || k > 3 || lane < 0 || lane > 2 || n > 64) return BAD;
    try {
      sheets[k] = lane == 0 ? new byte[n] : lane == 1 ? (Object) new short[n] : new int[n];
      return 1;
    } catch (NegativeArraySizeException e) {
      return -14;
    }
  }

  int lay(int k, int i, int v) {
    if (k < 0 || k > 3) return BAD;
    try {
      if (sheets[k] instanceof byte[] bytes) bytes[i] = (byte) v;
      else if (sheets[k] instanceof short[] shorts) shorts[i] = (short) v;
      else ((int[]) sheets[k])[i] = v;
      return 1;
    } catch (NullPointerException e) {
      return -11;
    } catch (ArrayIndexOutOfBoundsException e) {
      return -12;
    }
  }

  static int cell(Object row, int lane, int i) {
    return lane == 0 ? ((byte[]) row)[i] : lane == 1 ? ((short[]) row)[i] : ((int[]) row)[i];
  }

  int scan(int b, int k, int lane, int f, int n) {
    if (noBody(b) || k < 0 || k > 3 || lane < 0 || lane > 2 || n < 0 || n > 20) return BAD;
    if (sheets[k] == null) return -11;
    Class<?> due = lane == 0 ? byte[].class : lane == 1 ? short[].class : int[].class;
    if (sheets[k].getClass() != due) return -13;
    int found = 0;
    try {
      for (int i = 0; i < n; i++) {
        P p = new P(cell(sheets[k], lane, f + 3 * i), cell(sheets[k], lane, f + 3 * i + 1), cell(sheets[k], lane, f + 3 * i + 2));
        if (!isPoint(p.x, p.y, p.z)) return -20 - i;
        if (told.get(b).within(p)) found++;
      }
      return found;
    } catch (ArrayIndexOutOfBoundsException e) {
      return -12;
    }
  }

  int count(int what) {
    switch (what) {
      case 0:
        return told.size();
      case 1:
        return sheets[0] == null ? NONE : java.lang.reflect.Array.getLength(sheets[0]);
      case 2:
        return tape.size();
      case 3:
        return told.isEmpty() ? NONE : told.get(told.size() - 1).texts;
      default:
        return BAD;
    }
  }
}
