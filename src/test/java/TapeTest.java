/** Promises 1 to 6: a new object, the tape, and bodies told, refused and dropped. */
public final class TapeTest {
  private static final int BAD = Check.BAD, FULL = Check.FULL, NONE = Check.NONE;
  private static final String ONE_POINT = Check.ONE_POINT, NOTHING = Check.NOTHING, ALL = Check.ALL;

  public static void main(String[] args) {
    Check.sentence("promise 1, What it is", "An object is used for at most 512 calls after it has been made",
        TapeTest::theLastCallHolds);
    Check.sentence("promise 1", "No BODIES; SHEETS have nothing.", TapeTest::newIsEmpty);
    Check.sentence("promise 1", "No BODIES; SHEETS have nothing.", TapeTest::newIsItsOwn);

    Check.sentence("promise 2", "Eight bytes come behind THE TAPE, the highest first: how many it has.",
        TapeTest::feedIsHighestFirst);
    Check.sentence("promise 2", "Eight bytes come behind THE TAPE, the highest first: how many it has.",
        TapeTest::feedGoesBehind);
    Check.sentence("promise 2", "FULL: more than 160.", TapeTest::feedUpTo160);
    Check.sentence("promise 2", "FULL: more than 160.", TapeTest::feedRefusedKeepsTheTape);
    Check.sentence("promise 2, Terms", "THE TAPE has 160 bytes, places from 0.", TapeTest::all160BytesAreRead);

    Check.sentence("promise 3", "THE TAPE keeps its first n bytes: how many it had.", TapeTest::endKeepsTheFirst);
    Check.sentence("promise 3", "THE TAPE keeps its first n bytes: how many it had. BAD.", TapeTest::endOfNoBytes);
    Check.sentence("promise 3", "THE TAPE keeps its first n bytes: how many it had. BAD.", TapeTest::endIsBad);

    Check.sentence("promise 4", "THE TAPE (empty then) tells a BODY: its number.", TapeTest::bodiesAreNumbered);
    Check.sentence("promise 4", "FULL: 8 are there (THE TAPE stays)", TapeTest::nineBodiesAreFull);
    Check.sentence("promise 4", "FULL: 8 are there (THE TAPE stays)", TapeTest::fullAheadOfFaults);
    Check.sentence("promise 4", "-10 less the place of its FAULT.", TapeTest::placesOfFaults);
    Check.sentence("promise 4, Terms", "what is refused changes nothing (but THE TAPE, as told)",
        TapeTest::faultEmptiesTheTapeAlone);

    Check.sentence("promise 5", "The FAULT of the latest body() that was not FULL; 0.", TapeTest::faultOfTheLatest);
    Check.sentence("promise 5", "The FAULT of the latest body() that was not FULL; 0.", TapeTest::faultPassesFull);
    Check.sentence("promise 5", "The FAULT of the latest body() that was not FULL; 0.", TapeTest::faultStays);

    Check.sentence("promise 6", "The latest BODY goes: its number.", TapeTest::dropGoesDown);
    Check.sentence("promise 6", "The latest BODY goes: its number.", TapeTest::dropMakesRoomForAnother);
    Check.sentence("promise 6", "The latest BODY goes: its number. NONE.", TapeTest::dropOfNone);
    Check.finish("TapeTest");
  }

  private static void due(String call, int got, int want) {
    Check.due(call, got, want);
  }

  private static void theLastCallHolds() {
    SignSolids s = new SignSolids();
    int calls = 0;
    while (calls + 6 <= 510) {
      due("feed after " + calls, s.feed(0x62616c6c20302030L), 8);
      due("feed after " + calls, s.feed(0x2030203200000000L), 16);
      due("end after " + calls, s.end(12), 16);
      due("body after " + calls, s.body(), 0);
      due("volume after " + calls, s.volume(0), 27);
      due("drop after " + calls, s.drop(), 0);
      calls += 6;
    }
    due("call 511", s.sheet(0, 2, 64), 1);
    due("call 512", s.count(1), 64);
    due("calls", calls, 510);
  }

  private static void newIsEmpty() {
    SignSolids s = new SignSolids();
    due("bodies", s.count(0), 0);
    due("cells of sheet 0", s.count(1), NONE);
    due("bytes", s.count(2), 0);
    due("rules", s.count(3), NONE);
    due("fault", s.fault(), 0);
    due("drop", s.drop(), NONE);
    for (int b = 0; b < 8; b++) {
      due("volume of " + b, s.volume(b), BAD);
    }
    for (int k = 0; k < 4; k++) {
      due("lay on " + k, s.lay(k, 0, 1), -11);
    }
  }

  private static void newIsItsOwn() {
    SignSolids used = Check.with(ALL, ONE_POINT);
    Check.tell(used, "x");
    used.sheet(0, 0, 5);
    used.feed(0);
    newIsEmpty();
    due("the first keeps its bodies", used.count(0), 2);
    due("the first keeps its sheet", used.count(1), 5);
    due("the first keeps its tape", used.count(2), 8);
    due("the first keeps its fault", used.fault(), 1);
  }

  private static void feedIsHighestFirst() {
    SignSolids s = new SignSolids();
    due("feed", s.feed(0x62616c6c20302030L), 8);
    due("feed", s.feed(0x2030203500000000L), 16);
    s.end(12);
    due("body of 'ball 0 0 0 5'", s.body(), 0);
    due("its rule", s.rule(0, 0, 0, 0), -25);
    // The sign's bit belongs to the first byte alone.
    s.feed(0x8062616c6c203020L);
    due("a byte of 128 ahead", s.body(), -10);
    due("it is no token", s.fault(), 1);
    s.feed(0x20202020202020ffL);
    due("a byte of 255 behind", s.body(), -17);
  }

  private static void feedGoesBehind() {
    SignSolids s = new SignSolids();
    s.feed(0x62616c6c20302030L);
    s.end(5);
    due("behind five bytes", s.feed(0x3120322033203420L), 13);
    due("body of 'ball 1 2 3 4 '", s.body(), 0);
    due("its rule", s.rule(0, 1, 2, 3), -16);
  }

  private static void feedUpTo160() {
    SignSolids s = new SignSolids();
    for (int n = 8; n <= 160; n += 8) {
      due("feed up to " + n, s.feed(0x2020202020202020L), n);
    }
    due("feed up to 168", s.feed(0), FULL);
    for (int kept = 153; kept < 160; kept++) {
      s.end(kept);
      due("feed behind " + kept, s.feed(0), FULL);
      due("bytes", s.count(2), kept);
      s.end(152);
      due("feed behind 152", s.feed(0x2020202020202020L), 160);
    }
  }

  private static void feedRefusedKeepsTheTape() {
    SignSolids s = new SignSolids();
    Check.lay(s, Check.padded("ball 0 0 0 5", 153));
    due("feed of seven bytes too many", s.feed(-1), FULL);
    due("bytes", s.count(2), 153);
    due("the text is whole", s.body(), 0);
    due("its rule", s.rule(0, 0, 0, 0), -25);
  }

  private static void all160BytesAreRead() {
    String text = Check.padded("turn", 148) + "ball 0 0 0 1";
    SignSolids s = Check.with(text, text.substring(0, 159) + "9");
    due("a text up to the last byte", s.rule(0, 0, 0, 0), -1);
    due("the last byte counts", s.rule(1, 0, 0, 0), -81);
    due("a fault at place 159", Check.tell(s, Check.padded("ball 0 0 0 1", 159) + "x"), -10 - 159);
    due("its kind", s.fault(), 1);
    due("a fault at place 0", Check.tell(s, "x"), -10);
    due("a fault at the length 160", Check.tell(s, Check.padded("ball 0 0 0", 160)), -10 - 160);
    due("its kind", s.fault(), 2);
  }

  private static void endKeepsTheFirst() {
    SignSolids s = new SignSolids();
    Check.lay(s, "ball 0 0 0 1 nonsens");
    due("twelve of twenty", s.end(12), 20);
    due("twelve of twelve", s.end(12), 12);
    due("twelve are there", s.count(2), 12);
    due("what is behind is gone", s.body(), 0);
    due("the first are kept", s.rule(0, 0, 0, 0), -1);
    Check.lay(s, "12345678");
    due("none of eight", s.end(0), 8);
    due("none are there", s.count(2), 0);
  }

  private static void endOfNoBytes() {
    SignSolids s = new SignSolids();
    due("none of none", s.end(0), 0);
    due("one of none", s.end(1), BAD);
    due("none are there", s.count(2), 0);
  }

  private static void endIsBad() {
    SignSolids s = new SignSolids();
    Check.lay(s, Check.ONE_POINT + " ");
    for (int n : Check.outside(0, 16)) {
      due("end(" + n + ")", s.end(n), BAD);
      due("bytes", s.count(2), 16);
    }
    due("160 of 16", s.end(160), BAD);
    due("the text is whole", s.body(), 0);
    Check.lay(s, Check.padded("", 160));
    due("161 of 160", s.end(161), BAD);
    due("160 of 160", s.end(160), 160);
  }

  private static void bodiesAreNumbered() {
    SignSolids s = new SignSolids();
    for (int b = 0; b < 8; b++) {
      due("body", Check.tell(s, "ball 0 0 0 " + b), b);
      due("bytes", s.count(2), 0);
      due("bodies", s.count(0), b + 1);
    }
    for (int b = 0; b < 8; b++) {
      due("rule of " + b, s.rule(b, 0, 0, 0), -b * b);
    }
  }

  private static SignSolids withEight() {
    return Check.with(ALL, ALL, ALL, ALL, ALL, ALL, ALL, ALL);
  }

  private static void nineBodiesAreFull() {
    SignSolids s = withEight();
    due("the ninth", Check.tell(s, "ball 0 0 0 5"), FULL);
    due("bytes", s.count(2), 12);
    due("bodies", s.count(0), 8);
    due("once more", s.body(), FULL);
    due("drop", s.drop(), 7);
    due("the tape has stayed", s.body(), 7);
    due("its rule", s.rule(7, 0, 0, 0), -25);
    due("bytes", s.count(2), 0);
    due("FULL again, with nothing on the tape", s.body(), FULL);
  }

  private static void fullAheadOfFaults() {
    SignSolids s = withEight();
    due("a text with a fault", Check.tell(s, "nonsense"), FULL);
    due("bytes", s.count(2), 8);
    s.drop();
    due("the fault with room for it", s.body(), -10);
    due("bodies", s.count(0), 7);
  }

  private static void placesOfFaults() {
    SignSolids s = new SignSolids();
    due("no text at all", s.body(), -10);
    due("its kind", s.fault(), 2);
    for (int place = 0; place < 160; place++) {
      due("a fault at " + place, Check.tell(new SignSolids(), " ".repeat(place) + "?"), -10 - place);
    }
    due("blanks up to 160", Check.tell(s, Check.padded("", 160)), -10 - 160);
  }

  private static void faultEmptiesTheTapeAlone() {
    SignSolids s = Check.with(ONE_POINT);
    s.sheet(0, 1, 3);
    due("a fault", Check.tell(s, "ball 0 0 0 99 ball"), -21);
    due("bytes", s.count(2), 0);
    due("bodies", s.count(0), 1);
    due("rules", s.count(3), 1);
    due("points", s.volume(0), 1);
    due("cells", s.count(1), 3);
    due("a good text behind it", Check.tell(s, NOTHING), 1);
  }

  private static void faultOfTheLatest() {
    SignSolids s = new SignSolids();
    due("no body() yet", s.fault(), 0);
    String[] texts = {"x", "5", "rep 21", "flip flip flip flip flip flip flip flip flip flip"};
    for (int k = 0; k < 4; k++) {
      Check.tell(s, texts[k]);
      due("behind '" + texts[k] + "'", s.fault(), k + 1);
    }
    Check.tell(s, ONE_POINT);
    due("behind a good text", s.fault(), 0);
  }

  private static void faultPassesFull() {
    SignSolids s = withEight();
    due("FULL with a bad text", Check.tell(s, "-"), FULL);
    due("0 of the body() before", s.fault(), 0);
    s.drop();
    s.body();
    due("the bad text's own", s.fault(), 1);
  }

  private static void faultStays() {
    SignSolids s = Check.with(ONE_POINT);
    Check.tell(s, "rep 0");
    s.drop();
    due("behind drop", s.fault(), 3);
    s.feed(0);
    s.end(3);
    s.end(-1);
    s.volume(0);
    s.sheet(0, 0, 1);
    due("behind other calls", s.fault(), 3);
  }

  private static void dropGoesDown() {
    SignSolids s = new SignSolids();
    for (int b = 0; b < 8; b++) {
      Check.tell(s, "ball 0 0 0 " + b);
    }
    for (int b = 7; b >= 0; b--) {
      due("drop", s.drop(), b);
      due("bodies", s.count(0), b);
      due("it is gone", s.volume(b), BAD);
      if (b > 0) {
        due("the one before stays", s.rule(b - 1, 0, 0, 0), -(b - 1) * (b - 1));
      }
    }
  }

  private static void dropMakesRoomForAnother() {
    SignSolids s = Check.with(NOTHING, ALL);
    due("points", s.volume(1), 3375);
    due("blocks", s.parted(1, 4), 1);
    s.drop();
    due("another", Check.tell(s, ONE_POINT), 1);
    due("its points", s.volume(1), 1);
    due("its blocks", s.parted(1, 4), 33);
  }

  private static void dropOfNone() {
    SignSolids s = new SignSolids();
    due("of a new object", s.drop(), NONE);
    due("again", s.drop(), NONE);
    due("bodies", s.count(0), 0);
    due("numbers begin with 0", Check.tell(s, ONE_POINT), 0);
    due("drop", s.drop(), 0);
    due("behind the last", s.drop(), NONE);
    due("numbers begin with 0 again", Check.tell(s, ONE_POINT), 0);
  }
}
