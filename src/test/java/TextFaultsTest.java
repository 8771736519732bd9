/** The faults of texts: which one, where, and which of two comes first. */
public final class TextFaultsTest {
  private static final String NINE = "turn flip turn flip turn flip turn flip turn ";

  public static void main(String[] args) {
    tokens();
    misplaced();
    bounds();
    depth();
    order();
    good();
    Check.finish("TextFaultsTest");
  }

  private static void faulty(String text, int fault, int place) {
    SignSolids s = new SignSolids();
    Check.due("body() of '" + text + "'", Check.tell(s, text), -10 - place);
    Check.due("fault() of '" + text + "'", s.fault(), fault);
    Check.due("bodies behind '" + text + "'", s.count(0), 0);
    Check.due("tape behind '" + text + "'", s.count(2), 0);
  }

  private static void fine(String text, int texts) {
    SignSolids s = new SignSolids();
    Check.due("body() of '" + text + "'", Check.tell(s, text), 0);
    Check.due("fault() of '" + text + "'", s.fault(), 0);
    Check.due("texts of '" + text + "'", s.count(3), texts);
  }

  private static void tokens() {
    for (char c = 0; c < 256; c++) {
      boolean letter = c >= 'a' && c <= 'z', figure = c >= '0' && c <= '9';
      faulty(String.valueOf(c), c == ' ' || figure ? 2 : 1, c == ' ' ? 1 : 0);
      faulty("ball 0 0 0 1 " + c, 1, 13, c == ' ' || figure);
      faulty("ball 0 0 0 1" + c, 1, 12, c == ' ' || figure || letter);
    }
    faulty("bal", 1, 0);
    for (String name : "xall xox xlane xr xnd xess xove xurn xlip xep".split(" ")) {
      faulty(name, 1, 0);
    }
    for (String name : "ball box plane or and less move turn flip rep".split(" ")) {
      faulty(name.substring(0, name.length() - 1) + "q", 1, 0);
      faulty(name + "a", 1, 0);
      faulty(name + "z", 1, 0);
    }
    faulty("balls 0 0 0 1", 1, 0);
    faulty("orball 0 0 0 1 ball 0 0 0 1", 1, 0);
    faulty("turn turnip", 1, 5);
    faulty("  Ball 0 0 0 1", 1, 2);
    faulty("ball 0 0 0 100", 1, 11);
    faulty("ball 0 0 0 001", 1, 11);
    faulty("ball 0 0 0 -100", 1, 11);
    faulty("ball 0 0 -", 1, 9);
    faulty("ball 0 0 -x", 1, 9);
    faulty("ball 0 0 --1", 1, 9);
    faulty("ball 0 0 - 1", 1, 9);
    faulty("ball 0 +1 0 1", 1, 7);
    faulty("ball 0,0 0 1", 1, 6);
    faulty("ball 0 0 0 4294967297", 1, 11);
  }

  private static void faulty(String text, int fault, int place, boolean skipped) {
    if (!skipped) {
      faulty(text, fault, place);
    }
  }

  private static void misplaced() {
    faulty("", 2, 0);
    faulty("    ", 2, 4);
    faulty("7", 2, 0);
    faulty("-7 ball 0 0 0 1", 2, 0);
    faulty("ball", 2, 4);
    faulty("ball 0 0 0", 2, 10);
    faulty("ball 0 0 0  ", 2, 12);
    faulty("ball 0 ball 0 0", 2, 7);
    faulty("box 0 0 0 1 1", 2, 13);
    faulty("box 0 0 0 1 1 or", 2, 14);
    faulty("plane 0 0 0 turn", 2, 12);
    faulty("move 0 0 ball 0 0 0 1", 2, 9);
    faulty("move 0 0 0 0 ball 0 0 0 1", 2, 11);
    faulty("rep ball 0 0 0 1", 2, 4);
    faulty("rep 1 2 ball 0 0 0 1", 2, 6);
    faulty("turn 1 ball 0 0 0 1", 2, 5);
    faulty("turn", 2, 4);
    faulty("or ball 0 0 0 1", 2, 15);
    faulty("and ball 0 0 0 1 5", 2, 17);
    faulty("less ball 0 0 0 1 ", 2, 18);
    faulty("ball 0 0 0 1 1", 2, 13);
    faulty("ball 0 0 0 1 ball 0 0 0 1", 2, 13);
    faulty("ball 0 0 0 1or", 2, 12);
    faulty("ball 0 0 0 1-1", 2, 12);
    faulty("or ball 0 0 0 1 ball 0 0 0 1 turn", 2, 29);
  }

  private static void bounds() {
    String[] all = {"ball 0 0 0 0", "box 0 0 0 0 0 0", "plane 0 0 0 0", "move 0 0 0 ball 0 0 0 0"};
    int[] counts = {3, 3, 4, 3};
    for (int k = 0; k < all.length; k++) {
      int at = all[k].indexOf('0');
      for (int i = 0; i < counts[k]; i++, at += 2) {
        for (String off : new String[] {"21", "-21", "99", "-99"}) {
          faulty(all[k].substring(0, at) + off + all[k].substring(at + 1), 3, at);
        }
      }
    }
    fine("plane 20 -20 20 -20", 1);
    fine("move -20 20 -20 ball 20 -20 20 20", 2);
    fine("box -20 -20 -20 20 20 20", 1);
    fine("box 20 20 20 20 20 20", 1);
    fine("ball 0 0 0 0", 1);
    fine("rep 1 ball 0 0 0 0", 2);
    fine("rep 20 ball 0 0 0 0", 2);
    faulty("ball 0 0 0 21", 3, 11);
    faulty("ball 0 0 0 -1", 3, 11);
    faulty("rep 0 ball 0 0 0 0", 3, 4);
    faulty("rep 21 ball 0 0 0 0", 3, 4);
    faulty("rep -1 ball 0 0 0 0", 3, 4);
    faulty("box 0 0 0 21 0 0", 3, 10);
    faulty("box 0 0 0 0 21 0", 3, 12);
    faulty("box 0 0 0 0 0 21", 3, 14);
    faulty("box 5 4 3 4 4 3", 3, 10);
    faulty("box 5 4 3 5 3 3", 3, 12);
    faulty("box 5 4 3 5 4 2", 3, 14);
    fine("box 5 4 3 5 4 3", 1);
    fine("box -5 -4 -3 -5 -4 -3", 1);
    faulty("box -5 -4 -3 -6 -4 -3", 3, 13);
  }

  private static void depth() {
    fine(NINE + "ball 0 0 0 1", 10);
    faulty(NINE + "turn ball 0 0 0 1", 4, 50);
    faulty(NINE + "turn  flip", 4, 51);
    faulty(NINE + "turn 5", 4, 50);
    faulty(NINE + "turn", 4, 49);
    faulty(NINE + "turn ", 4, 50);
    faulty(NINE + "or ball 0 0 0 1 ball 0 0 0 1", 4, 48);
    faulty(NINE + "rep 3 ball 0 0 0 1", 4, 51);
    faulty(NINE + "move 1 2 3 ball 0 0 0 1", 4, 56);
    String eight = NINE.substring(5);
    fine(eight + "or ball 0 0 0 1 ball 0 0 0 1", 11);
    faulty(eight + "or ball 0 0 0 1 flip ball 0 0 0 1", 4, 61);
    fine("or ball 0 0 0 1 " + eight + "ball 0 0 0 1", 11);
  }

  private static void order() {
    faulty(NINE + "turn x", 1, 50);
    faulty(NINE + "turn -", 1, 50);
    faulty(NINE + "rep 0 x", 3, 49);
    faulty("ball 21 x 0 0", 3, 5);
    faulty("ball 21?", 3, 5);
    faulty("ball 21", 3, 5);
    faulty("ball 20?", 1, 7);
    faulty("ball turn x", 2, 5);
    faulty("5 x", 2, 0);
    faulty("rep x", 1, 4);
    faulty("box 0 0 0 -1 x", 3, 10);
    faulty("box 0 0 0 0 0 0 x", 1, 16);
    faulty("or 5 x", 2, 3);
    faulty("or ball 0 0 0 21 x", 3, 14);
  }

  private static void good() {
    fine("ball0 0 0 0", 1);
    fine("ball-0-1-02 03", 1);
    fine("  ball   1  2  3  4  ", 1);
    fine("or ball0 0 0 1ball0 0 0 1", 3);
    fine("or plane 1 0 0-1box-1-1-1 1 1 1", 3);
    SignSolids s = new SignSolids();
    Check.tell(s, "ball-5-04 3 09");
    Check.due("rule of numbers without blanks", s.rule(0, 0, 0, 0), 25 + 16 + 9 - 81);
    StringBuilder longest = new StringBuilder("or ball 1 1 1 1 or ball 2 2 2 2 ball 3 3 3 3");
    while (longest.length() < 159) {
      longest.append(' ');
    }
    fine(longest + " ", 5);
    faulty(longest + "x", 1, 159);
    faulty(longest + "5", 2, 159);
    faulty(longest + "-", 1, 159);
  }
}
