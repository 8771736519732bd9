import java.lang.reflect.Method;

/**
 * All promises: every call with all of its numbers at the edges that the document names, right outside of them and at
 * the ends of int, in an empty, a filled and a full object, by the answers of the naive model. No call may throw.
 */
public final class EdgesTest {
  private static final int MIN = Check.MIN, MAX = Check.MAX;
  private static final int[] BODIES = {-1, 0, 2, 3, 7, 8, MIN, MAX};
  private static final int[] PLACES = {-8, -7, 0, 7, 8, MIN, MAX};
  private static final int[] FEW_PLACES = {-8, -7, 0, 7, 8};
  private static final int[] STEPS = {-4, -3, 0, 3, 4};
  private static final int[] ENDS = {MIN, 0, MAX};
  private static final int[] WHATS = {-1, 0, 1, 2, 3, 4, 5, MIN, MAX};
  private static final int[] SHEETS = {-1, 0, 1, 2, 3, 4, MIN, MAX};
  private static final int[] LANES = {-1, 0, 1, 2, 3, MIN, MAX};
  private static final int[] CELLS = {-1, 0, 1, 61, 62, 63, 64, 65, MIN, MAX};

  private static final String[] NO_TEXTS = {};
  private static final String[] SOME_TEXTS = {"less box -6 -6 -6 6 6 6 ball 0 0 0 3", "ball 0 0 0 0", "plane 0 0 0 1"};
  private static final String[] EIGHT_TEXTS = {"ball 7 7 7 2", "ball 0 0 0 0", "rep 2 box 1 -7 -7 1 7 7",
    "turn rep 3 plane 1 0 0 1", "flip box -7 0 0 -7 0 0", "plane 20 20 20 -20", "or ball 6 6 6 1 ball 5 5 6 1",
    "box -20 -20 -20 20 20 20"};

  private SignSolids real;
  private NaiveSolids naive;
  private int calls;
  private final String[] texts;

  private EdgesTest(String... texts) {
    this.texts = texts;
    renew();
  }

  public static void main(String[] args) throws ReflectiveOperationException {
    for (String[] texts : new String[][] {NO_TEXTS, SOME_TEXTS, EIGHT_TEXTS}) {
      EdgesTest test = new EdgesTest(texts);
      test.tape();
      test.rules();
      test.points();
      test.sheets();
    }
    Check.finish("EdgesTest");
  }

  /** An object is good for 512 calls: ahead of their end the test goes on with a new one. */
  private void renew() {
    real = new SignSolids();
    naive = new NaiveSolids();
    calls = 0;
    for (String text : texts) {
      byte[] bytes = Check.padded(text, 40).getBytes(java.nio.charset.StandardCharsets.ISO_8859_1);
      for (int at = 0; at < bytes.length; at += 8, calls++) {
        real.feed(Check.eight(bytes, at));
        naive.feed(Check.eight(bytes, at));
      }
      Check.due("telling " + text, real.body(), naive.body());
      calls++;
    }
    for (int k = 0; k < texts.length && k < 3; k++, calls++) {
      real.sheet(k, k, k == 1 ? 0 : 64);
      naive.sheet(k, k, k == 1 ? 0 : 64);
    }
  }

  private void tape() throws ReflectiveOperationException {
    for (long v : new long[] {0, -1, Long.MIN_VALUE, Long.MAX_VALUE, 0x6262626262626262L}) {
      Check.due("feed(" + v + ")", real.feed(v), naive.feed(v));
      Check.due("body()", real.body(), naive.body());
      Check.due("fault()", real.fault(), naive.fault());
    }
    for (int n = 0; n < 22; n++) {
      Check.due("feed", real.feed(n), naive.feed(n));
    }
    all("end", new int[] {-1, 161, MIN, MAX, 160, 160, 159, 160, 1, 2, 0, 1});
    all("count", WHATS);
    for (int n = 0; n < 10; n++) {
      Check.due("drop", real.drop(), naive.drop());
    }
    renew();
  }

  private void rules() throws ReflectiveOperationException {
    int[] far = {-1001, -1000, 0, 1000, 1001, MIN, MAX};
    all("rule", BODIES, far, far, far);
    int[] spanned = {0, 2, 8};
    all("span", spanned, FEW_PLACES, FEW_PLACES, FEW_PLACES, FEW_PLACES, FEW_PLACES, FEW_PLACES);
    all("span", BODIES, ENDS, ENDS, ENDS, ENDS, ENDS, ENDS);
    all("parted", BODIES, WHATS);
  }

  private void points() throws ReflectiveOperationException {
    all("volume", BODIES);
    all("point", BODIES, new int[] {-1, 0, 1, 3374, 3375, MIN, MAX}, WHATS);
    all("skin", BODIES, WHATS);
    all("parts", BODIES, WHATS);
    all("part", BODIES, PLACES, PLACES, PLACES);
    all("slice", BODIES, PLACES, WHATS);
    all("thin", BODIES, WHATS);
    all("overhang", BODIES, PLACES);
    all("both", BODIES, BODIES, WHATS);
    all("ray", new int[] {0, 7}, FEW_PLACES, FEW_PLACES, FEW_PLACES, STEPS, STEPS, STEPS);
    all("ray", BODIES, ENDS, ENDS, ENDS, ENDS, ENDS, ENDS);
  }

  private void sheets() throws ReflectiveOperationException {
    all("lay", SHEETS, CELLS, new int[] {MIN, -8, 0, 7, MAX});
    all("scan", BODIES, SHEETS, LANES, CELLS, new int[] {-1, 0, 1, 20, 21, MIN, MAX});
    all("sheet", SHEETS, LANES, CELLS);
  }

  /** Makes a call with every choice of one number from each row. */
  private void all(String name, int[]... rows) throws ReflectiveOperationException {
    int[] at = new int[rows.length];
    int place = 0;
    while (place < rows.length) {
      Object[] numbers = new Object[rows.length];
      for (int i = 0; i < rows.length; i++) {
        numbers[i] = rows[i][at[i]];
      }
      if (name.equals("span")) {
        once(name, with(numbers, true));
        once(name, with(numbers, false));
      } else {
        once(name, numbers);
      }
      for (place = 0; place < rows.length && ++at[place] == rows[place].length; place++) {
        at[place] = 0;
      }
    }
  }

  private static Object[] with(Object[] numbers, boolean high) {
    Object[] more = java.util.Arrays.copyOf(numbers, numbers.length + 1);
    more[numbers.length] = high;
    return more;
  }

  private void once(String name, Object[] numbers) throws ReflectiveOperationException {
    if (calls >= 500) {
      renew();
    }
    calls++;
    int got = (int) named(SignSolids.class, name).invoke(real, numbers);
    int want = (int) named(NaiveSolids.class, name).invoke(naive, numbers);
    Check.due(name + java.util.Arrays.toString(numbers), got, want);
  }

  private static Method named(Class<?> of, String name) {
    for (Method m : of.getDeclaredMethods()) {
      if (m.getName().equals(name)) {
        return m;
      }
    }
    throw new IllegalStateException(of + " has no " + name);
  }
}
