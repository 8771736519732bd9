/** Promise 4, as the Terms tell texts: which are good, which fault the others have, where, and which comes first. */
public final class TextFaultsTest {
  private static final String WHERE = "promise 4, Terms";
  private static final String NINE = "turn flip turn flip turn flip turn flip turn ";
  private static final String[] NAMES = "ball box plane or and less move turn flip rep".split(" ");
  private static final String NO_TOKEN =
      "1 no TOKEN, a NAME that is none of these, a NUMBER that is too long, a - alone (its first byte).";
  private static final String MISPLACED =
      "2 a TOKEN that can not stand there (or the end: the length; behind the text: it).";
  private static final String OUT_OF_BOUNDS =
      "3 a NUMBER out of its bounds; of box u below x, v below y, w below z (at u, v, w).";
  private static final String TOO_DEEP = "4 a text 11 deep (where it begins; ahead of 2 there).";

  public static void main(String[] args) {
    Check.sentence(WHERE, "NAMES, each as long as may be (a .. z)", TextFaultsTest::namesAreLong);
    Check.sentence(WHERE, "NUMBERS (1 or 2 figures, perhaps a - right ahead)", TextFaultsTest::numbers);
    Check.sentence(WHERE, "blanks (32) between", TextFaultsTest::blanks);
    Check.sentence(WHERE, "r 0 to 20", TextFaultsTest::radius);
    Check.sentence(WHERE, "n 1 to 20", TextFaultsTest::repeats);
    Check.sentence(WHERE, "all others -20 to 20.", TextFaultsTest::otherNumbers);
    Check.sentence(WHERE, "Texts are 10 deep at most.", TextFaultsTest::tenDeep);
    Check.sentence(WHERE, NO_TOKEN, TextFaultsTest::bytesOfNoToken);
    Check.sentence(WHERE, NO_TOKEN, TextFaultsTest::namesOfNone);
    Check.sentence(WHERE, NO_TOKEN, TextFaultsTest::longNumbers);
    Check.sentence(WHERE, NO_TOKEN, TextFaultsTest::signsAlone);
    Check.sentence(WHERE, MISPLACED, TextFaultsTest::misplaced);
    Check.sentence(WHERE, MISPLACED, TextFaultsTest::endTooSoon);
    Check.sentence(WHERE, MISPLACED, TextFaultsTest::behindTheText);
    Check.sentence(WHERE, OUT_OF_BOUNDS, TextFaultsTest::boxBelow);
    Check.sentence(WHERE, TOO_DEEP, TextFaultsTest::elevenDeep);
    Check.sentence(WHERE, TOO_DEEP, TextFaultsTest::elevenDeepAheadOfMisplaced);
    Check.sentence(WHERE, "FAULTS, the first met as it is read (a TOKEN is read when the one before has been taken)",
        TextFaultsTest::firstMet);
    Check.finish("TextFaultsTest");
  }

  private static void faulty(String text, int fault, int place) {
    SignSolids s = new SignSolids();
    Check.due("body() of '" + text + "'", Check.tell(s, text), -10 - place);
    Check.due("fault() of '" + text + "'", s.fault(), fault);
    Check.due("bodies behind '" + text + "'", s.count(0), 0);
    Check.due("tape behind '" + text + "'", s.count(2), 0);
  }

  private static void fine(String text, int texts) {
    SignSolids s = new SignSolids();
    Check.due("body() of '" + text + "'", Check.tell(s, text), 0);
    Check.due("fault() of '" + text + "'", s.fault(), 0);
    Check.due("texts of '" + text + "'", s.count(3), texts);
  }

  private static void valued(String text, int value) {
    Check.due("rule of '" + text + "'", Check.with(text).rule(0, 0, 0, 0), value);
  }

  // ---- tokens

  private static void namesAreLong() {
    faulty("balls 0 0 0 1", 1, 0);
    faulty("orball 0 0 0 1 ball 0 0 0 1", 1, 0);
    faulty("turnball 0 0 0 1", 1, 0);
    faulty("turn turnip", 1, 5);
    for (String name : NAMES) {
      faulty(name + "a", 1, 0);
      faulty(name + "z", 1, 0);
      faulty(name + name, 1, 0);
    }
    faulty("a".repeat(160), 1, 0);
    // A name ends where no letter stands.
    fine("ball0 0 0 0", 1);
    fine("or ball0 0 0 1ball0 0 0 1", 3);
    fine("or plane 1 0 0-1box-1-1-1 1 1 1", 3);
  }

  private static void numbers() {
    valued("ball 0 0 0 9", -81);
    valued("ball 0 0 0 09", -81);
    valued("ball 0 0 0 10", -100);
    valued("plane 0 0 0 -9", 9);
    valued("plane 0 0 0 -09", 9);
    valued("plane 0 0 0 -10", 10);
    valued("plane 0 0 0 -0", 0);
    valued("plane 0 0 0 -00", 0);
    valued("ball-5-04 3 09", 25 + 16 + 9 - 81);
    fine("ball-0-1-02 03", 1);
  }

  private static void blanks() {
    fine("  ball   1  2  3  4  ", 1);
    fine(Check.padded("ball 1 2 3 4", 160), 1);
    fine(" ".repeat(148) + "ball 1 2 3 4", 1);
    for (char c : new char[] {0, 9, 10, 13, 31, 33, 160}) {
      faulty("ball" + c + "0 0 0 1", 1, 4);
      faulty("ball 0 0 0 1" + c, 1, 12);
      faulty(c + "ball 0 0 0 1", 1, 0);
    }
  }

  private static void bytesOfNoToken() {
    for (char c = 0; c < 256; c++) {
      boolean letter = c >= 'a' && c <= 'z', figure = c >= '0' && c <= '9';
      faulty(String.valueOf(c), c == ' ' || figure ? 2 : 1, c == ' ' ? 1 : 0);
      if (c != ' ' && !figure) {
        faulty("ball 0 0 0 1 " + c, 1, 13);
        faulty("ball 0 0 0 " + c, 1, 11);
      }
      if (c != ' ' && !figure && !letter) {
        faulty("ball 0 0 0 1" + c, 1, 12);
        faulty("turn" + c, 1, 4);
      }
    }
    faulty("  Ball 0 0 0 1", 1, 2);
    faulty("ball 0 +1 0 1", 1, 7);
    faulty("ball 0,0 0 1", 1, 6);
    faulty(Check.padded("ball 0 0 0 1", 159) + "?", 1, 159);
  }

  private static void namesOfNone() {
    for (String name : NAMES) {
      for (int i = 0; i < name.length(); i++) {
        String off = name.substring(0, i) + "q" + name.substring(i + 1);
        faulty(off, 1, 0);
        faulty("turn " + off, 1, 5);
      }
      faulty(name.substring(1), 1, 0);
      faulty(name.substring(0, name.length() - 1), 1, 0);
      faulty(name.toUpperCase(), 1, 0);
    }
    faulty("ball 0 x 0 1", 1, 7);
    faulty("ball 0 0 0 1 x", 1, 13);
    faulty(Check.padded("ball 0 0 0 1", 159) + "x", 1, 159);
  }

  private static void longNumbers() {
    faulty("ball 0 0 0 100", 1, 11);
    faulty("ball 0 0 0 001", 1, 11);
    faulty("ball 0 0 0 000", 1, 11);
    faulty("ball 0 0 -100 0", 1, 9);
    faulty("ball 0 0 -001 0", 1, 9);
    faulty("ball 0 0 0 4294967297", 1, 11);
    faulty("100", 1, 0);
    faulty("ball 0 0 0 1 100", 1, 13);
    faulty("ball " + "0".repeat(155), 1, 5);
  }

  private static void signsAlone() {
    faulty("-", 1, 0);
    faulty("ball 0 0 -", 1, 9);
    faulty("ball 0 0 - 1", 1, 9);
    faulty("ball 0 0 -x", 1, 9);
    faulty("ball 0 0 --1 0", 1, 9);
    faulty("ball 0 0 0 1-", 1, 12);
    faulty(Check.padded("ball 0 0 0 1", 159) + "-", 1, 159);
  }

  // ---- what stands where

  private static void misplaced() {
    faulty("7", 2, 0);
    faulty("-7 ball 0 0 0 1", 2, 0);
    faulty("  7", 2, 2);
    faulty("move 0 0 0 0 ball 0 0 0 1", 2, 11);
    faulty("rep 1 2 ball 0 0 0 1", 2, 6);
    faulty("or 5", 2, 3);
    faulty("and ball 0 0 0 1 5", 2, 17);
    // A name can not stand for any of the numbers.
    String[] heads = {"ball", "box", "plane", "move", "rep"};
    int[] counts = {4, 6, 4, 3, 1};
    for (int k = 0; k < heads.length; k++) {
      for (int given = 0; given < counts[k]; given++) {
        String text = heads[k] + " 1".repeat(given) + " ";
        faulty(text + "turn", 2, text.length());
        faulty(text + "ball 0 0 0 1", 2, text.length());
      }
    }
    // A number can not stand for any of the texts.
    for (String head : new String[] {"or", "and", "less", "turn", "flip", "move 0 0 0", "rep 1"}) {
      faulty(head + " 1", 2, head.length() + 1);
    }
    for (String head : new String[] {"or", "and", "less"}) {
      faulty(head + " ball 0 0 0 1 1", 2, head.length() + 14);
    }
  }

  private static void endTooSoon() {
    faulty("", 2, 0);
    faulty("    ", 2, 4);
    faulty(" ".repeat(160), 2, 160);
    String whole = "or less ball 1 1 1 1 and box 1 1 1 1 1 1 plane 1 1 1 1 move 1 1 1 turn flip rep 1 ball 1 1 1 1";
    fine(whole, 11);
    for (int length = 0; length < whole.length(); length++) {
      // Cut off inside a name, it is another name.
      if (length == 0 || !Character.isLetter(whole.charAt(length - 1)) || whole.charAt(length) == ' ') {
        faulty(whole.substring(0, length), 2, length);
        faulty(whole.substring(0, length) + "  ", 2, length + 2);
      }
    }
  }

  private static void behindTheText() {
    faulty("ball 0 0 0 1 1", 2, 13);
    faulty("ball 0 0 0 1 -1", 2, 13);
    faulty("ball 0 0 0 1   99", 2, 15);
    faulty("ball 0 0 0 1 ball 0 0 0 1", 2, 13);
    faulty("ball 0 0 0 1or", 2, 12);
    faulty("ball 0 0 0 1-1", 2, 12);
    faulty("turn ball 0 0 0 1 turn", 2, 18);
    faulty("or ball 0 0 0 1 ball 0 0 0 1 turn", 2, 29);
    faulty("box 0 0 0 0 0 0 0", 2, 16);
    faulty("plane 0 0 0 0 0", 2, 14);
    faulty(Check.padded("ball 0 0 0 1", 159) + "5", 2, 159);
  }

  // ---- bounds

  /** A number of a text, by the text ahead of it and behind it: least to most is fine, all else is fault 3 there. */
  private static void bounded(String ahead, String behind, int least, int most, int texts) {
    for (int v = -99; v <= 99; v++) {
      if (v < least || v > most) {
        faulty(ahead + v + behind, 3, ahead.length());
      } else {
        fine(ahead + v + behind, texts);
      }
    }
  }

  private static void radius() {
    bounded("ball 0 0 0 ", "", 0, 20, 1);
    bounded("turn ball 20 20 20 ", " ", 0, 20, 2);
  }

  private static void repeats() {
    bounded("rep ", " ball 0 0 0 1", 1, 20, 2);
  }

  private static void otherNumbers() {
    String[] texts = {"ball 0 0 0 0", "plane 0 0 0 0", "move 0 0 0 ball 0 0 0 0"};
    int[] counts = {3, 4, 3};
    int[] told = {1, 1, 2};
    for (int k = 0; k < texts.length; k++) {
      int at = texts[k].indexOf('0');
      for (int i = 0; i < counts[k]; i++, at += 2) {
        bounded(texts[k].substring(0, at), texts[k].substring(at + 1), -20, 20, told[k]);
      }
    }
    bounded("box ", " 0 0 20 0 0", -20, 20, 1);
    bounded("box 0 ", " 0 0 20 0", -20, 20, 1);
    bounded("box 0 0 ", " 0 0 20", -20, 20, 1);
    bounded("box -20 0 0 ", " 0 0", -20, 20, 1);
    bounded("box 0 -20 0 0 ", " 0", -20, 20, 1);
    bounded("box 0 0 -20 0 0 ", "", -20, 20, 1);
  }

  private static void boxBelow() {
    bounded("box 5 0 0 ", " 0 0", 5, 20, 1);
    bounded("box 0 -5 0 0 ", " 0", -5, 20, 1);
    bounded("box 0 0 20 0 0 ", "", 20, 20, 1);
    // It is found at u, whatever stands behind it.
    faulty("box 5 5 5 4 4 4", 3, 10);
    faulty("box 5 5 5 5 4 4", 3, 12);
    faulty("box 5 5 5 5 5 4", 3, 14);
    fine("box 5 5 5 5 5 5", 1);
  }

  private static void tenDeep() {
    fine(NINE + "ball 0 0 0 1", 10);
    fine(NINE + "box 0 0 0 0 0 0", 10);
    String eight = NINE.substring(5);
    fine(eight + "or ball 0 0 0 1 ball 0 0 0 1", 11);
    fine("or ball 0 0 0 1 " + eight + "ball 0 0 0 1", 11);
    // Depth is not how many texts there are: these are 21, five deep at most.
    String balls = "ball0 0 0 0";
    String two = "or " + balls + balls, four = "or " + two + two, eightBalls = "or " + four + four;
    fine("or " + eightBalls + "or or " + balls + balls + balls, 21);
    faulty(NINE + "turn ball 0 0 0 1", 4, 50);
  }

  private static void elevenDeep() {
    faulty(NINE + "turn ball 0 0 0 1", 4, 50);
    faulty(NINE + "turn   ball 0 0 0 1", 4, 52);
    faulty(NINE + "or ball 0 0 0 1 ball 0 0 0 1", 4, 48);
    faulty(NINE + "and ball 0 0 0 1 ball 0 0 0 1", 4, 49);
    faulty(NINE + "less ball 0 0 0 1 ball 0 0 0 1", 4, 50);
    faulty(NINE + "flip ball 0 0 0 1", 4, 50);
    faulty(NINE + "rep 3 ball 0 0 0 1", 4, 51);
    faulty(NINE + "move 1 2 3 ball 0 0 0 1", 4, 56);
    String eight = NINE.substring(5);
    faulty(eight + "or ball 0 0 0 1 flip ball 0 0 0 1", 4, 61);
    faulty("or ball 0 0 0 1 " + NINE + "ball 0 0 0 1", 4, 61);
  }

  private static void elevenDeepAheadOfMisplaced() {
    faulty(NINE + "turn 5", 4, 50);
    faulty(NINE + "turn -20", 4, 50);
    faulty(NINE + "turn", 4, 49);
    faulty(NINE + "turn ", 4, 50);
    faulty(NINE + "rep 3 99", 4, 51);
    faulty(NINE + "or 5", 4, 48);
  }

  private static void firstMet() {
    // What is wrong with a token is met ahead of the token behind it.
    faulty("ball 21 x 0 0", 3, 5);
    faulty("ball 21?", 3, 5);
    faulty("ball 21", 3, 5);
    faulty("ball turn x", 2, 5);
    faulty("5 x", 2, 0);
    faulty("or 5 x", 2, 3);
    faulty("box 0 0 0 -1 x", 3, 10);
    faulty("box 0 0 0 -1 -1 -1", 3, 10);
    faulty("or ball 0 0 0 21 x", 3, 14);
    faulty(NINE + "rep 0 x", 3, 49);
    faulty(NINE + "turn ball ?", 4, 50);
    // A token that is none is met when it is read, ahead of what could not stand there.
    faulty("rep x", 1, 4);
    faulty("ball 20?", 1, 7);
    faulty("ball 0 0 0 1 x", 1, 13);
    faulty("box 0 0 0 0 0 0 x", 1, 16);
    faulty(NINE + "turn x", 1, 50);
    faulty(NINE + "turn -", 1, 50);
    faulty(NINE + "turn 100", 1, 50);
  }
}
