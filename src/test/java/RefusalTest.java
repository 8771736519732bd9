import java.util.function.Consumer;
import java.util.function.ToIntFunction;

/** The Terms' word on answers, for all promises: the first that fits, and that a refused call changes nothing. */
public final class RefusalTest {
  private static final int BAD = Check.BAD, FULL = Check.FULL, NONE = Check.NONE;
  private static final int NO_VALUE = Check.NO_VALUE, NO_POINT = Check.NO_POINT;
  private static final String NOTHING_CHANGES = "what is refused changes nothing (but THE TAPE, as told)";
  private static final String NUMBERS = "Answers: BAD -1 (a number is not as told, there is no such BODY, SHEET), STATE -2"
      + " (as told), FULL -3, NONE -4 (there is none), the first that fits";

  public static void main(String[] args) {
    Check.sentence("promises 1 to 23, Terms", NUMBERS, RefusalTest::numbers);
    Check.sentence("promises 1 to 23, Terms", NUMBERS, RefusalTest::theFirstThatFits);
    Check.sentence("promises 2 to 6, Terms", NOTHING_CHANGES, RefusalTest::tapeAndBodies);
    Check.sentence("promises 7 to 11, Terms", NOTHING_CHANGES, RefusalTest::rulesAndPoints);
    Check.sentence("promises 12 to 19, Terms", NOTHING_CHANGES, RefusalTest::shapes);
    Check.sentence("promises 20 to 23, Terms", NOTHING_CHANGES, RefusalTest::sheets);
    Check.sentence("promise 4, Terms", NOTHING_CHANGES, RefusalTest::faultyText);
    Check.sentence("promises 5, 7 to 19, 22 and 23, Not promised", "the answers and state changes described above",
        RefusalTest::askingChangesNothing);
    Check.finish("RefusalTest");
  }

  private static void numbers() {
    Check.due("BAD", SignSolids.BAD, -1);
    Check.due("STATE", SignSolids.STATE, -2);
    Check.due("FULL", SignSolids.FULL, -3);
    Check.due("NONE", SignSolids.NONE, -4);
  }

  private static void theFirstThatFits() {
    SignSolids s = Check.with(Check.NOTHING);
    Check.due("BAD ahead of NONE: part of no body", s.part(1, 0, 0, 0), BAD);
    Check.due("BAD ahead of NONE: part of no point", s.part(0, 8, 0, 0), BAD);
    Check.due("NONE: part", s.part(0, 0, 0, 0), NONE);
    Check.due("BAD ahead of NONE: ray of no body", s.ray(1, 0, 0, 0, 1, 0, 0), BAD);
    Check.due("BAD ahead of NONE: ray of no steps", s.ray(0, 0, 0, 0, 0, 0, 0), BAD);
    Check.due("NONE: ray", s.ray(0, 0, 0, 0, 1, 0, 0), NONE);
    Check.due("BAD ahead of SIZE", s.sheet(4, 0, -1), BAD);
    Check.due("BAD ahead of NULL", s.lay(4, 0, 0), BAD);
    Check.due("BAD ahead of NULL", s.scan(1, 0, 0, 0, 1), BAD);
    Check.due("NULL", s.scan(0, 0, 0, 0, 1), -11);
    Check.due("BAD: count of an empty object", new SignSolids().count(4), BAD);
    Check.due("NONE: count of an empty object", new SignSolids().count(3), NONE);
  }

  // ---- twins: the same object twice, one of them with the refused call

  /** Bodies, sheets of all lanes and one without cells, half a text on the tape, and a fault told before. */
  private static SignSolids scene() {
    SignSolids s = Check.with("or box -3 -3 -3 3 3 3 ball 5 5 5 2", "less box -3 -3 -3 3 3 3 ball 0 0 0 1");
    Check.tell(s, "rep 0 ball 0 0 0 1");
    s.sheet(0, 0, 6);
    s.sheet(1, 1, 6);
    s.sheet(2, 2, 0);
    for (int i = 0; i < 6; i++) {
      s.lay(0, i, i - 2);
      s.lay(1, i, 9 - i);
    }
    Check.lay(s, "ball 1 2 3");
    return s;
  }

  private static SignSolids fullScene() {
    SignSolids s = scene();
    for (int b = 2; b < 8; b++) {
      s.end(0);
      Check.tell(s, "ball 0 0 0 " + b);
    }
    Check.lay(s, Check.padded("ball 1 2 3", 153));
    return s;
  }

  /** Both answer alike to all that shows their state; the tape is shown by telling what is on it. */
  private static void alike(String call, SignSolids one, SignSolids other) {
    Consumer<ToIntFunction<SignSolids>> same =
        ask -> Check.due("behind " + call, ask.applyAsInt(one), ask.applyAsInt(other));
    same.accept(s -> s.fault());
    for (int what = 0; what < 4; what++) {
      int w = what;
      same.accept(s -> s.count(w));
    }
    for (int body = 0; body < 8; body++) {
      int b = body;
      same.accept(s -> s.rule(b, 2, -1, 3));
      same.accept(s -> s.volume(b));
      same.accept(s -> s.parted(b, 4));
      same.accept(s -> s.skin(b, 1));
      same.accept(s -> s.parts(b, 1));
    }
    for (int sheet = 0; sheet < 4; sheet++) {
      for (int lane = 0; lane < 3; lane++) {
        int k = sheet, l = lane;
        same.accept(s -> s.scan(0, k, l, 0, 2));
        same.accept(s -> s.scan(0, k, l, 3, 1));
      }
    }
    // The last number was lacking: with it, the text that stood on the tape becomes a body.
    same.accept(s -> s.drop());
    same.accept(s -> s.feed(0x2034202020202020L));
    same.accept(s -> s.body());
    same.accept(s -> s.fault());
    same.accept(s -> s.rule(s.count(0) - 1, 2, -1, 3));
  }

  private static void refused(String call, int want, ToIntFunction<SignSolids> asked) {
    SignSolids touched = scene();
    Check.due(call, asked.applyAsInt(touched), want);
    alike(call, touched, scene());
  }

  private static void refusedWhenFull(String call, int want, ToIntFunction<SignSolids> asked) {
    SignSolids touched = fullScene();
    Check.due(call, asked.applyAsInt(touched), want);
    alike(call, touched, fullScene());
  }

  private static void tapeAndBodies() {
    refusedWhenFull("feed, FULL", FULL, s -> s.feed(-1));
    refusedWhenFull("body, FULL", FULL, s -> s.body());
    refused("end below 0", BAD, s -> s.end(-1));
    refused("end behind the tape", BAD, s -> s.end(11));
    SignSolids none = new SignSolids();
    Check.due("drop, NONE", none.drop(), NONE);
    alike("drop, NONE", none, new SignSolids());
  }

  private static void rulesAndPoints() {
    refused("rule of no body", NO_VALUE, s -> s.rule(2, 0, 0, 0));
    refused("rule too far", NO_VALUE, s -> s.rule(0, 1001, 0, 0));
    refused("span of no body", NO_VALUE, s -> s.span(2, 0, 0, 0, 0, 0, 0, true));
    refused("span backwards", NO_VALUE, s -> s.span(0, 1, 0, 0, 0, 0, 0, false));
    refused("parted of no body", BAD, s -> s.parted(2, 0));
    refused("parted, what", BAD, s -> s.parted(0, 5));
    refused("volume of no body", BAD, s -> s.volume(2));
    refused("point of no body", NO_POINT, s -> s.point(2, 0, 0));
    refused("point, none such", NO_POINT, s -> s.point(0, 3375, 0));
    refused("point, what", NO_POINT, s -> s.point(0, 0, 3));
  }

  private static void shapes() {
    refused("skin of no body", BAD, s -> s.skin(2, 0));
    refused("skin, what", BAD, s -> s.skin(0, 4));
    refused("parts of no body", BAD, s -> s.parts(2, 0));
    refused("parts, what", BAD, s -> s.parts(0, 4));
    refused("part of no point", BAD, s -> s.part(0, 0, 0, 8));
    refused("part, NONE", NONE, s -> s.part(0, 7, 7, -7));
    refused("slice, z", BAD, s -> s.slice(0, 8, 2));
    refused("slice, what", BAD, s -> s.slice(0, 0, 3));
    refused("thin, way", BAD, s -> s.thin(0, 3));
    refused("overhang, z", BAD, s -> s.overhang(0, -8));
    refused("both of no body", BAD, s -> s.both(0, 2, 0));
    refused("both, what", BAD, s -> s.both(0, 1, 4));
    refused("ray of no steps", BAD, s -> s.ray(0, 0, 0, 0, 0, 0, 0));
    refused("ray, NONE", NONE, s -> s.ray(0, 7, 7, -7, 1, 1, 1));
  }

  private static void sheets() {
    refused("sheet of 65", BAD, s -> s.sheet(0, 2, 65));
    refused("sheet of no lane", BAD, s -> s.sheet(0, 3, 6));
    refused("sheet below 0", -14, s -> s.sheet(0, 2, -1));
    refused("sheet below 0, of nothing", -14, s -> s.sheet(3, 2, -1));
    refused("lay on no sheet", BAD, s -> s.lay(4, 0, 1));
    refused("lay on nothing", -11, s -> s.lay(3, 0, 1));
    refused("lay behind the cells", -12, s -> s.lay(0, 6, 1));
    refused("lay ahead of the cells", -12, s -> s.lay(1, -1, 1));
    refused("scan of no body", BAD, s -> s.scan(2, 0, 0, 0, 1));
    refused("scan of nothing", -11, s -> s.scan(0, 3, 0, 0, 1));
    refused("scan of another lane", -13, s -> s.scan(0, 0, 1, 0, 1));
    refused("scan behind the cells", -12, s -> s.scan(0, 0, 0, 0, 3));
    refused("scan of no point", -20, s -> s.scan(0, 1, 1, 0, 2));
    refused("count, what", BAD, s -> s.count(4));
  }

  private static void faultyText() {
    SignSolids told = scene(), cleared = scene();
    told.feed(0x2034202d20202020L);
    Check.due("a - behind the text", told.body(), -10 - 13);
    Check.due("the fault is told", told.fault(), 1);
    Check.due("the tape is empty", told.count(2), 0);
    // Apart from the fault and the tape it is as if it had not been: a good text makes both alike.
    cleared.end(0);
    Check.tell(told, Check.ONE_POINT);
    Check.tell(cleared, Check.ONE_POINT);
    alike("a faulty text", told, cleared);
  }

  /** A call that only asks answers the same again, and leaves all as it was. */
  private static void asks(String call, ToIntFunction<SignSolids> asked) {
    SignSolids touched = scene();
    int answer = asked.applyAsInt(touched);
    Check.due(call + " again", asked.applyAsInt(touched), answer);
    alike(call, touched, scene());
  }

  private static void askingChangesNothing() {
    asks("fault", s -> s.fault());
    asks("rule", s -> s.rule(0, 3, 3, 3));
    asks("span", s -> s.span(0, 0, 0, 0, 3, 3, 3, false));
    asks("parted", s -> s.parted(0, 0));
    asks("volume", s -> s.volume(0));
    asks("point", s -> s.point(0, 0, 2));
    asks("skin", s -> s.skin(0, 3));
    asks("parts", s -> s.parts(0, 0));
    asks("hollows", s -> s.parts(1, 1));
    asks("part", s -> s.part(0, 3, 3, 3));
    asks("slice", s -> s.slice(0, 0, 2));
    asks("thin", s -> s.thin(0, 0));
    asks("overhang", s -> s.overhang(0, -7));
    asks("both", s -> s.both(0, 1, 0));
    asks("ray", s -> s.ray(0, 0, 6, 0, 0, -1, 0));
    asks("scan", s -> s.scan(0, 0, 0, 0, 2));
    asks("count", s -> s.count(2));
  }
}
