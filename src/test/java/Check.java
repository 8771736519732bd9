/** What the tests share: telling bodies by texts, and counting answers that are not as due. */
final class Check {
  private static int wrong = 0;
  private static int asked = 0;

  private Check() {}

  static void due(String call, long got, long want) {
    asked++;
    if (got != want) {
      wrong++;
      if (wrong <= 50) {
        System.out.println(call + " answered " + got + ", due is " + want);
      }
    }
  }

  static void holds(String what, boolean so) {
    due(what, so ? 1 : 0, 1);
  }

  /** Lays a text on the tape, byte for byte. */
  static void lay(SignSolids s, String text) {
    lay(s, text.getBytes(java.nio.charset.StandardCharsets.ISO_8859_1));
  }

  static void lay(SignSolids s, byte[] bytes) {
    int had = s.count(2);
    for (int at = 0; at < bytes.length; at += 8) {
      s.feed(eight(bytes, at));
    }
    s.end(had + bytes.length);
  }

  static long eight(byte[] bytes, int at) {
    long v = 0;
    for (int i = at; i < at + 8; i++) {
      v = v << 8 | (i < bytes.length ? bytes[i] & 255 : ' ');
    }
    return v;
  }

  static int tell(SignSolids s, String text) {
    lay(s, text);
    return s.body();
  }

  /** A new object with these bodies. */
  static SignSolids with(String... texts) {
    SignSolids s = new SignSolids();
    for (int b = 0; b < texts.length; b++) {
      due("telling " + texts[b], tell(s, texts[b]), b);
    }
    return s;
  }

  /** Prints what was found and ends the program. */
  static void finish(String name) {
    System.out.println(name + ": " + asked + " answers, " + wrong + " not as due");
    System.exit(wrong == 0 ? 0 : 1);
  }
}
