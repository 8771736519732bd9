/** What the tests share: telling bodies by texts, and counting answers that are not as due. */
final class Check {
  static final int BAD = SignSolids.BAD, FULL = SignSolids.FULL, NONE = SignSolids.NONE;
  static final int MIN = Integer.MIN_VALUE, MAX = Integer.MAX_VALUE;
  static final int NO_VALUE = -1000000000, NO_POINT = -100;
  static final String ONE_POINT = "box 0 0 0 0 0 0", NOTHING = "ball 0 0 0 0", ALL = "box -7 -7 -7 7 7 7";

  private static int wrong = 0;
  private static int asked = 0;
  private static int sentences = 0;
  private static String tested = "";

  private Check() {}

  /** Runs the test of one sentence of the document; a test that asks for no answer is wrong too. */
  static void sentence(String where, String words, Runnable test) {
    int before = asked;
    tested = where + ", '" + words + "': ";
    sentences++;
    test.run();
    holds("the test asks for answers", asked > before);
    tested = "";
  }

  static void due(String call, long got, long want) {
    asked++;
    if (got != want) {
      wrong++;
      if (wrong <= 50) {
        System.out.println(tested + call + " answered " + got + ", due is " + want);
      }
    }
  }

  static void holds(String what, boolean so) {
    due(what, so ? 1 : 0, 1);
  }

  /** Lays a text on the tape, byte for byte. */
  static void lay(SignSolids s, String text) {
    lay(s, text.getBytes(java.nio.charset.StandardCharsets.ISO_8859_1));
  }

  static void lay(SignSolids s, byte[] bytes) {
    int had = s.count(2);
    for (int at = 0; at < bytes.length; at += 8) {
      s.feed(eight(bytes, at));
    }
    s.end(had + bytes.length);
  }

  static long eight(byte[] bytes, int at) {
    long v = 0;
    for (int i = at; i < at + 8; i++) {
      v = v << 8 | (i < bytes.length ? bytes[i] & 255 : ' ');
    }
    return v;
  }

  static int tell(SignSolids s, String text) {
    lay(s, text);
    return s.body();
  }

  /** A new object with these bodies. */
  static SignSolids with(String... texts) {
    SignSolids s = new SignSolids();
    for (int b = 0; b < texts.length; b++) {
      due("telling " + texts[b], tell(s, texts[b]), b);
    }
    return s;
  }

  /** A text with blanks behind it, up to a length. */
  static String padded(String text, int length) {
    return text + " ".repeat(length - text.length());
  }

  /** Numbers that are no body's, where an object has so many bodies. */
  static int[] noBodies(int count) {
    return new int[] {-1, count, 8, MIN, MAX};
  }

  /** Numbers right outside and far outside of least to most. */
  static int[] outside(int least, int most) {
    return new int[] {least - 1, most + 1, MIN, MAX};
  }

  /** Prints what was found and ends the program. */
  static void finish(String name) {
    String of = sentences == 0 ? "" : sentences + " sentences, ";
    System.out.println(name + ": " + of + asked + " answers, " + wrong + " not as due");
    System.exit(wrong == 0 ? 0 : 1);
  }
}
