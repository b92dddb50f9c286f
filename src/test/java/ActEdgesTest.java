/** The boundary cases that promises 1 to 18 name, a test for each sentence: what changes the object. */
public final class ActEdgesTest {
  private static final Edges T = new Edges();
  private static final int UNTOLD = Edges.UNTOLD;
  private static final long NOTHING = Edges.NOTHING;
  /** By WAY 1; a PERIOD of 54 STEPS is found in the 60th. */
  private static final String SIXTY = "way(1) field(-3, 1, -2) set(0, 4, 1, 0, 1) set(1, 12, 0, -1, 1) begin(0, 1) ";
  /** By WAY 1; 60 STEPS without a PERIOD. */
  private static final String ENDLESS = "way(1) field(-2, 0, -2) set(0, 0, -1, 0, 2) set(1, 0, -1, 1, 1) begin(0, 1) ";
  /** All that an object can have: a COURSE with a PERIOD, a WORD, bytes on the TAPE, an IMAGE, eight acts. */
  private static final String FULL = "reads(1 1;2 3;3 3t) way(1) set(3, 1, 2, 3, 4) set(4, -5, 0, 0, 6) image(1) set(5, 150, 0, 0, 7) "
      + "way(0) set(0, 0, 1, 0, 1) set(1, 0, 0, 1, 1) begin(0, 1) go(2) 2*step() keep(2, 2) writes(7 8) ";

  public static void main(String[] args) {
    lastCall();
    field();
    way();
    set();
    measure();
    combine();
    begin();
    step();
    go();
    keep();
    feed();
    end();
    read();
    solve();
    fault();
    undo();
    image();
    back();
    T.end("the boundary cases of promises 1 to 18");
  }

  private static void field() {
    T.sentence("1. the FIELD of 0, 0, 2; STORE all 0");
    T.are("count(#)", 0, 0, 2, -108, 0, 0, 0, 0, 0, 0, 0, 0, 0, 0, 0, 0, 0, 0, 0).is("status()", 0).is("fault()", -1);
    for (int i = 0; i < 6; i++) T.are("value(" + i + ", #)", 0, 0, 0, 1);
    T.are("period(#)", -1, -1).is("word(0, 0)", -1).is("asks(0)", -1).is("state(0, false, 0)", UNTOLD);
    T.refused("undo()", -4).refused("back(0)", -2).refused("back(1)", -2).refused("step()", -3).refused("solve()", -4);

    T.sentence("2. STORE is all 0 then, there is no COURSE");
    // The same FIELD, too.
    for (String numbers : new String[] {"1, 1, 1", "0, 0, 2"}) {
      T.given(FULL + "field(" + numbers + ")");
      for (int i = 0; i < 6; i++) T.are("value(" + i + ", #)", 0, 0, 0, 1);
      T.is("count(5)", 0).is("count(6)", 0).is("count(7)", 0).is("count(8)", 0).is("count(9)", 0);
      T.is("product(0, 0)", NOTHING).is("determinant()", 0).is("period(0)", -1).is("digit(1, 0)", -1).refused("step()", -3);
      T.is("count(10)", 3).is("count(12)", 3).is("word(2, 2)", 1).is("count(11)", 8).is("count(4)", 0).is("back(1)", -1);
    }

    T.sentence("2. -1");
    T.given(FULL).refused("field(4, 1, 1)", -1).refused("field(1, -4, 1)", -1).refused("field(1, 1, MIN)", -1);

    T.sentence("2. -4 (it can't be one)");
    T.given(FULL).refused("field(0, 0, 0)", -4).refused("field(3, 3, 0)", -4).refused("field(0, 3, 1)", -4);
  }

  private static void lastCall() {
    T.sentence("What it is. an object is used for at most 512 calls");
    T.given(Edges.CUBE + "go(60) 504*set(5, 1, 0, 0, 1) set(5, 7, 0, 0, 1)").is("value(5, 0)", 7).is("count(11)", 8).is("step()", 4);
    T.given("");
    for (int k = 0; k < 511; k++) T.is("compare(6, 0)", -2);
    T.is("count(14)", 0).given("");
    for (int k = 0; k < 511; k++) T.due("way(2)", T.ask("way(2)"), -1);
    T.is("count(13)", 511);
  }

  private static void way() {
    T.sentence("3. what it was");
    T.is("way(0)", 0).is("way(1)", 0).is("way(1)", 1).is("way(0)", 1).is("way(0)", 0);

    T.sentence("3. -1");
    T.given(FULL + "way(1)").refused("way(2)", -1).refused("way(-1)", -1).refused("way(MAX)", -1).is("count(4)", 1);
  }

  private static void set() {
    T.sentence("4. each number -150 .. 150, d not 0");
    T.is("set(0, 150, 0, 0, 1)", 150).is("set(0, -150, 0, 0, 1)", -150).is("set(0, 0, 150, 0, 1)", 188);
    T.is("set(0, 0, -150, 0, 1)", -189).is("set(0, 0, 0, 150, 1)", 238).is("set(0, 0, 0, -150, 1)", -239);
    T.is("set(0, 1, 0, 0, 150)", 0).is("set(0, 1, 0, 0, -150)", -1).is("set(0, 1, 0, 0, 1)", 1).is("set(0, 1, 0, 0, -1)", -1);

    T.sentence("4. -1");
    T.given(FULL);
    for (String far : new String[] {"151", "-151", "MAX", "MIN"}) {
      T.refused("set(0, " + far + ", 1, 1, 1)", -1).refused("set(0, 1, " + far + ", 1, 1)", -1);
      T.refused("set(0, 1, 1, " + far + ", 1)", -1).refused("set(0, 1, 1, 1, " + far + ")", -1);
    }
    T.refused("set(0, 1, 1, 1, 0)", -1).refused("set(0, 0, 0, 0, 0)", -1);
    // Lowest terms would be 76 by 1: what is told counts.
    T.refused("set(0, 152, 0, 0, 2)", -1);

    T.sentence("4. -2");
    T.given(FULL).is("set(0, 1, 0, 0, 2)", 0).is("set(5, 5, 0, 0, 2)", 2);
    for (String far : new String[] {"-1", "6", "MAX", "MIN"}) T.refused("set(" + far + ", 1, 1, 1, 1)", -2);
  }

  private static void measure() {
    T.sentence("5. its FLOOR");
    T.is("measures(5, 0.0078125)", 0).is("measures(5, -0.0078125)", -1).is("measures(5, -1.5)", -2).is("measures(5, -2)", -2);
    T.is("measures(5, 149.0)", 149).is("measures(0, 74.5)", 74).is("measures(5, -0.0)", 0).are("value(5, #)", 0, 0, 0, 1, 0);

    T.sentence("5. -2");
    T.given(FULL).is("measures(0, 1)", 1).is("measures(5, 1)", 1);
    for (String far : new String[] {"-1", "6", "MAX", "MIN"}) T.refused("measure(" + far + ", 0)", -2);

    T.sentence("5. -5 (no number that can be a VALUE)");
    T.given("").is("measures(0, 150)", 150).are("value(0, #)", 150, 0, 0, 1).is("measures(0, -150)", -150);
    T.is("measures(0, 128)", 128).is("measures(0, 144)", 144).is("measures(0, 148)", 148).is("measures(0, 74.5)", 74);
    T.are("value(0, #)", 149, 0, 0, 2).is("measures(0, -1.1640625)", -2).are("value(0, #)", -149, 0, 0, 128);
    T.is("measures(0, 0.0078125)", 0).are("value(0, #)", 1, 0, 0, 128).is("measures(0, 1.171875)", 1).are("value(0, #)", 75, 0, 0, 64);
    T.given(FULL).refused("measures(0, 151)", -5).refused("measures(0, -151)", -5).refused("measures(0, 75.5)", -5);
    T.refused("measures(0, 150.5)", -5).refused("measures(0, 152)", -5).refused("measures(0, 256)", -5);
    T.refused("measures(0, 1.1796875)", -5).refused("measures(0, 0.00390625)", -5).refused("measures(0, 0.58203125)", -5);
    T.refused("measures(0, 150.00000000000003)", -5).refused("measures(0, 1.0000000000000002)", -5);
    T.refused("measures(0, 0.1)", -5).refused("measures(0, 4.9E-324)", -5).refused("measures(0, -2.2250738585072014E-308)", -5);
    T.given(FULL).refused("measures(0, 1.7976931348623157E308)", -5).refused("measures(0, 1.8446744073709552E19)", -5);
    T.refused("measures(0, 4294967296)", -5).refused("measures(0, 5.421010862427522E-20)", -5);

    T.sentence("5. -5 (an endless one, none)");
    T.given(FULL).refused("measure(0, 0x7FF0000000000000)", -5).refused("measure(0, -0x10000000000000)", -5);
    T.refused("measure(0, 0x7FF0000000000001)", -5).refused("measure(0, 0x7FF8000000000000)", -5).refused("measure(0, -1)", -5);
    T.refused("measure(0, 0x7FFFFFFFFFFFFFFF)", -5);
  }

  private static void combine() {
    T.sentence("6. together (how 0), less (1), times (2), by (3)");
    T.given("set(0, 3, 0, 0, 2) set(1, 0, 1, 0, 3)").is("combine(0, 0, 1, 2)", 1).are("value(2, #)", 9, 2, 0, 6);
    T.is("combine(1, 0, 1, 2)", 1).are("value(2, #)", 9, -2, 0, 6).is("combine(2, 0, 1, 2)", 0).are("value(2, #)", 0, 1, 0, 2);
    T.is("combine(3, 0, 1, 2)", 3).are("value(2, #)", 0, 0, 9, 4).is("combine(3, 1, 0, 5)", 0).are("value(5, #)", 0, 2, 0, 9);

    T.sentence("6. into STORE k");
    T.given("set(0, 3, 0, 0, 2)").is("combine(0, 0, 0, 0)", 3).are("value(0, #)", 3, 0, 0, 1).is("combine(3, 0, 0, 0)", 1);
    T.given("set(0, 0, 1, 0, 1) set(1, 1, 1, 0, 1)").is("combine(2, 0, 1, 1)", 2).are("value(1, #)", 0, 1, 1, 1);
    T.is("combine(3, 1, 0, 0)", 2).are("value(0, #)", 1, 1, 0, 1).is("combine(1, 0, 1, 1)", -1).are("value(1, #)", 1, 0, -1, 1);

    T.sentence("6. its FLOOR");
    T.given("set(0, 1, 0, 0, 2) set(1, 2, 0, 0, 1)").is("combine(1, 0, 1, 2)", -2).is("combine(2, 0, 2, 3)", -1);

    T.sentence("6. -1 (how)");
    T.given(FULL).is("combine(0, 3, 4, 2)", 1).is("combine(3, 3, 4, 2)", -3);
    for (String far : new String[] {"-1", "4", "MAX", "MIN"}) T.refused("combine(" + far + ", 3, 4, 2)", -1);

    T.sentence("6. -2");
    T.given(FULL).is("combine(0, 0, 0, 0)", 2).is("combine(1, 5, 5, 5)", 0);
    for (String far : new String[] {"-1", "6", "MAX", "MIN"}) {
      T.given(FULL).refused("combine(0, " + far + ", 0, 0)", -2).refused("combine(0, 0, " + far + ", 0)", -2);
      T.refused("combine(0, 0, 0, " + far + ")", -2).refused("combine(3, " + far + ", 0, 0)", -2);
    }

    T.sentence("6. -4 (by 0)");
    T.given("set(0, 1, 0, 0, 1) set(1, 1, 100, -80, 150)").is("combine(3, 5, 0, 2)", 0).refused("combine(3, 0, 5, 2)", -4);
    T.refused("combine(3, 5, 5, 2)", -4).is("combine(2, 0, 5, 2)", 0).is("combine(0, 0, 5, 2)", 1);
    // By what is nearly 0: what comes of it can't be.
    T.refused("combine(3, 0, 1, 2)", -5);

    T.sentence("6. -5");
    T.given("set(0, 150, 0, 0, 1) set(1, -150, 0, 0, 1) set(2, 1, 0, 0, 1) set(3, 1, 0, 0, 150)");
    T.is("combine(0, 0, 1, 4)", 0).refused("combine(0, 0, 2, 4)", -5).refused("combine(1, 1, 2, 4)", -5);
    T.is("combine(2, 0, 3, 4)", 1).refused("combine(2, 0, 0, 4)", -5).refused("combine(3, 3, 0, 4)", -5);
    T.refused("combine(2, 3, 3, 4)", -5).is("combine(3, 2, 0, 4)", 0).are("value(4, #)", 1, 0, 0, 150);
    T.refused("combine(0, 0, 3, 4)", -5).is("combine(1, 0, 2, 4)", 149).is("combine(3, 2, 3, 4)", 150);
    // ROOT ROOT times 76 ROOT: 152.
    T.given("set(0, 0, 0, 1, 1) set(1, 0, 75, 0, 1) set(2, 0, 76, 0, 1)").is("combine(2, 0, 1, 3)", 150).refused("combine(2, 0, 2, 3)", -5);
  }

  private static void begin() {
    T.sentence("7. in place of what was");
    T.given(FULL + "begin(1, 0)").is("count(7)", 0).are("period(#)", -1, -1).are("product(0, #)", 1, 0, 0).is("digit(1, 0)", -1);
    T.are("state(0, false, #)", 0, 0, 1, 1).are("state(1, false, #)", UNTOLD).is("count(9)", 0);

    T.sentence("7. a of its first STEP (FLOOR of u)");
    T.given("set(0, 0, 1, 0, 1) set(1, 150, 0, 0, 8)").is("begin(0, 1)", 1).is("begin(1, 0)", 18);
    T.given("set(0, 99, 0, 0, 1) set(1, 1, 0, 0, 150)").is("begin(0, 1)", 99).is("begin(1, 0)", 0);
    // By WAY 1 the first STEP will be TURNED; a is FLOOR of u nonetheless.
    T.given("way(1) set(0, 0, 1, 0, 1) set(1, 5, 0, 1, 1)").is("begin(0, 1)", 1).is("step()", 1).are("digit(1, #)", 1, 6, 1);

    T.sentence("7. -2");
    T.given(FULL).is("begin(0, 5)", 1).is("begin(5, 0)", 21);
    for (String far : new String[] {"-1", "6", "MAX", "MIN"}) {
      T.given(FULL).refused("begin(" + far + ", 0)", -2).refused("begin(0, " + far + ")", -2).refused("begin(4, " + far + ")", -2);
    }

    T.sentence("7. -4 (not above 0)");
    T.given(FULL + "set(5, 0, 0, 0, 1)").refused("begin(4, 0)", -4).refused("begin(0, 4)", -4).refused("begin(5, 0)", -4);
    T.refused("begin(0, 5)", -4).is("count(7)", 4);

    T.sentence("7. -4 (FLOORS above 99)");
    T.given(FULL + "set(5, 100, 0, 0, 1) set(4, 149, 0, 0, 2)").refused("begin(5, 0)", -4).refused("begin(0, 5)", -4);
    T.is("begin(4, 4)", 74).and("set(4, 0, 79, 0, 1)").is("begin(4, 4)", 99).and("set(4, 0, 80, 0, 1)");
    T.refused("begin(4, 0)", -4).refused("begin(0, 4)", -4);
  }

  private static void step() {
    T.sentence("8. how many there are");
    T.given(Edges.CUBE).is("step()", 1).is("step()", 2).is("step()", 3).is("step()", 4).and("begin(0, 1)").is("step()", 1);
    T.given(Edges.SLOW + "go(60) go(60)").refused("step()", -5).is("count(7)", 60);

    T.sentence("8. -3");
    T.given("set(0, 0, 1, 0, 1)").refused("step()", -3).and("begin(0, 0) field(0, 0, 2)").refused("step()", -3);
    T.given(Edges.SHORT + "2*step()").is("step()", 3).refused("step()", -3);

    T.sentence("8. -5");
    T.given("set(0, 1, 0, 0, 99) set(1, 1, 0, 0, 100) begin(0, 0)").is("step()", 1).and("begin(1, 0)").refused("step()", -5);
    // What was REFUSED can be asked again, and is REFUSED again.
    T.refused("step()", -5).is("count(17)", 2).is("count(8)", 0).is("count(7)", 0);
  }

  private static void go() {
    T.sentence("9. STEPS, n (1 .. 60) at most");
    T.given(ENDLESS).is("go(1)", 1).is("go(58)", 58).is("count(7)", 59).is("go(60)", 1).is("count(7)", 60).refused("go(60)", -5);
    T.given(ENDLESS).is("go(60)", 60).is("count(7)", 60).is("count(17)", 0).refused("go(1)", -5);
    T.given(Edges.CUBE).is("go(1)", 1).is("go(1)", 1).is("count(7)", 2);

    T.sentence("9. -1");
    for (String far : new String[] {"0", "61", "-1", "MAX", "MIN"}) {
      T.given("").refused("go(" + far + ")", -1).given(FULL).refused("go(" + far + ")", -1);
      T.given(Edges.SHORT + "go(60)").refused("go(" + far + ")", -1);
    }

    T.sentence("9. till it ENDS");
    T.given(Edges.SHORT).is("go(60)", 3).is("count(8)", 1).refused("go(60)", -3);
    T.given(Edges.SHORT).is("go(3)", 3).is("count(8)", 1).given(Edges.SHORT).is("go(2)", 2).is("count(8)", 0).is("go(2)", 1);

    T.sentence("9. till the PERIOD is found in one");
    T.given(Edges.CUBE).is("go(60)", 3).are("period(#)", 2, 1).given(Edges.CUBE).is("go(2)", 2).are("period(#)", -1, -1);
    T.given(Edges.CUBE + "go(2)").is("go(2)", 1).are("period(#)", 2, 1).given(Edges.CUBE).is("go(3)", 3).are("period(#)", 2, 1);
    T.given(Edges.SLOW).is("go(60)", 1).are("period(#)", 0, 1);
    T.given(SIXTY).is("go(60)", 60).are("period(#)", 6, 54).given(SIXTY).is("go(59)", 59).are("period(#)", -1, -1).is("go(9)", 1);

    T.sentence("9. found ahead it does not end them");
    T.given(Edges.CUBE + "go(60)").is("go(7)", 7).is("go(1)", 1).is("count(7)", 11).are("period(#)", 2, 1);
    T.given(Edges.SLOW + "go(60)").is("go(60)", 59).is("count(7)", 60);

    T.sentence("9. till one is REFUSED: how many were done");
    // The 60th can't be.
    String last = "way(1) field(0, -3, 2) set(0, 1, -1, 0, 1) set(1, 0, 0, 2, 1) begin(0, 1) ";
    T.given(last).is("go(60)", 59).is("status()", 0).is("count(17)", 0).is("count(7)", 59).refused("go(60)", -5);
    T.given(last).is("go(59)", 59).refused("go(1)", -5).refused("step()", -5);
    T.given(Edges.CUBE + "go(60)").is("go(60)", 30).is("count(17)", 0).refused("go(60)", -5).is("count(7)", 33);

    T.sentence("9. -3");
    T.given("").refused("go(1)", -3).refused("go(60)", -3);
    T.given("set(0, 3, 0, 0, 1) begin(0, 0)").refused("go(1)", -3).refused("go(60)", -3);

    T.sentence("9. -5 (the first was)");
    T.given("set(0, 1, 0, 0, 100) begin(0, 0)").refused("go(1)", -5).refused("go(60)", -5).is("count(11)", 2);
  }

  private static void keep() {
    T.sentence("10. STATE of the COURSE's end, u into STORE i, v into STORE j");
    T.given(Edges.CUBE).is("keep(4, 5)", 1).are("value(4, #)", 0, 1, 0, 1).are("value(5, #)", 0, 0, 1, 1);
    T.given(Edges.CUBE + "step()").is("keep(5, 0)", 3).are("value(5, #)", 1, 1, 0, 1).are("value(0, #)", 1, 1, 1, 1);
    T.are("state(0, false, #)", 0, 1, 0, 1).is("count(7)", 1);
    // An ended COURSE has an end, too.
    T.given(Edges.SHORT + "go(60)").is("keep(2, 3)", 2).are("value(2, #)", 1, 0, 0, 1).are("value(3, #)", 2, 0, 0, 1);

    T.sentence("10. i first");
    T.given(Edges.CUBE + "step()").is("keep(3, 3)", 3).are("value(3, #)", 1, 1, 1, 1);

    T.sentence("10. -2");
    for (String far : new String[] {"-1", "6", "MAX", "MIN"}) {
      T.given(FULL).refused("keep(" + far + ", 0)", -2).refused("keep(0, " + far + ")", -2);
      T.given("").refused("keep(" + far + ", 0)", -2).refused("keep(0, " + far + ")", -2);
    }

    T.sentence("10. -3 (no COURSE)");
    T.given("set(0, 1, 0, 0, 1)").refused("keep(0, 1)", -3).given(FULL + "field(0, 0, 2)").refused("keep(0, 1)", -3);
  }

  private static void feed() {
    T.sentence("11. four of each number, the highest first");
    // "12 34" and blanks, then "t;5 6": 31 32 20 33, 34 20 20 20 ..
    T.given("").is("feed(0x31322033, 0x34202020, 0x20202020, 0x743B3520, 0x36202020)", 20).is("read()", 2);
    T.are("word(0, #)", 12, 34, 1).are("word(1, #)", 5, 6, 0);
    for (int n = 0; n < 20; n++) {
      // One byte that can't go on, of which the highest bit is set: its place is the FAULT.
      StringBuilder five = new StringBuilder();
      for (int k = 0; k < 5; k++) {
        int four = 0x20202020;
        if (n / 4 == k) four = four & ~(255 << (24 - n % 4 * 8)) | 0xB1 << (24 - n % 4 * 8);
        five.append(k == 0 ? "" : ", ").append(four);
      }
      T.given("").is("feed(" + five + ")", 20).refused("read()", -6).is("fault()", n);
    }

    T.sentence("11. behind the TAPE: how many it has");
    T.given("").is("feed(0x31202020, 0x20202020, 0x20202020, 0x20202020, 0x20202020)", 20);
    T.is("feed(0x20202032, 0x20202020, 0x20202020, 0x20202020, 0x20202020)", 40).is("read()", 1).are("word(0, #)", 1, 2, 0);
    T.given("writes(1 )").is("feed(0x32202020, 0x20202020, 0x20202020, 0x20202020, 0x20202078)", 22).refused("read()", -6);
    T.is("fault()", 21);

    T.sentence("11. NONE, if there would be more than 200");
    T.given("9*feed(0, 0, 0, 0, 0)").is("feed(0, 0, 0, 0, 0)", 200).is("feed(0, 0, 0, 0, 0)", -1).is("count(12)", 200);
    T.given("writes(" + " ".repeat(180) + ")").is("feed(0, 0, 0, 0, 0)", 200).is("count(12)", 200);
    T.given("writes(" + " ".repeat(181) + ")").is("feed(0, 0, 0, 0, 0)", -1).is("count(12)", 181).is("status()", 0);
    T.refused("read()", -6).is("fault()", 181).is("count(13)", 0);
    T.given("writes(" + " ".repeat(197) + "1 2)").is("feed(0x33333333, 0, 0, 0, 0)", -1).is("read()", 1).are("word(0, #)", 1, 2, 0);
  }

  private static void end() {
    T.sentence("12. the TAPE has its first n bytes alone: n");
    T.given("writes(1 2;3 4)").is("end(7)", 7).is("end(3)", 3).is("count(12)", 3).is("read()", 1).are("word(0, #)", 1, 2, 0);
    T.given("writes(1 2;3 4)").is("end(0)", 0).is("count(12)", 0).refused("read()", -6).is("fault()", 0);
    // What was behind is gone.
    T.given("writes(1 2;3 4) end(2)").is("feed(0x39202020, 0x20202020, 0x20202020, 0x20202020, 0x20202020)", 22).is("read()", 1);
    T.are("word(0, #)", 1, 9, 0);

    T.sentence("12. NONE, if it has not so many");
    T.given("").is("end(0)", 0).is("end(1)", -1).and("writes(1 2)").is("end(4)", -1).is("count(12)", 3).is("end(3)", 3);
    T.is("end(MAX)", -1).is("count(12)", 3).is("read()", 1).given("10*feed(0, 0, 0, 0, 0)").is("end(201)", -1).is("end(200)", 200);

    T.sentence("12. NONE, if n is below 0");
    T.given("writes(1 2)").is("end(-1)", -1).is("end(MIN)", -1).is("count(12)", 3).is("status()", 0).is("read()", 1);
  }

  private static void read() {
    T.sentence("13. how many DIGITS");
    T.is("reads(1 1)", 1).is("reads(1 1;1 1)", 2).is("reads(" + "1 1;".repeat(39) + "1 1)", 40).is("count(10)", 40);

    T.sentence("13. the TEXT on the TAPE is the WORD");
    T.given("reads(1 1;2 3t)").are("word(0, #)", 1, 1, 0).are("word(1, #)", 2, 3, 1).is("reads(4 5)", 1).are("word(0, #)", 4, 5, 0);
    T.is("word(1, 0)", -1);

    T.sentence("13. empty then, behind -6, too");
    T.given("writes(1 1)").is("count(12)", 3).is("read()", 1).is("count(12)", 0).refused("read()", -6).is("fault()", 0);
    T.given("writes(1 x)").is("count(12)", 3).refused("read()", -6).is("count(12)", 0).is("end(1)", -1);

    T.sentence("13. -6");
    T.given(FULL).refused("reads()", -6).refused("reads(1)", -6).refused("reads(1 1;)", -6).refused("reads(1 100)", -6);
    T.refused("reads(" + "1 1;".repeat(40) + "1 1)", -6).are("word(2, #)", 3, 3, 1).is("count(10)", 3);
    T.given("").refused("reads(1)", -6).is("count(10)", 0).is("word(0, 0)", -1);
  }

  private static void solve() {
    T.sentence("14. the FIELD is that, STORE is u, v, 0, 0, 0, 0, there is no COURSE: the DISCRIMINANT");
    T.given(FULL + "reads(0 1)").is("solve()", -31).are("count(#)", 1, 0, 1, -31, 0, 0).are("value(0, #)", 0, -1, 1, 1);
    T.are("value(1, #)", 0, 1, 0, 1);
    for (int i = 2; i < 6; i++) T.are("value(" + i + ", #)", 0, 0, 0, 1);
    T.is("count(10)", 1).is("count(12)", 0).refused("step()", -3).is("undo()", 9).is("count(7)", 4);

    T.sentence("14. -4 (no WORD)");
    T.given("").refused("solve()", -4).given(Edges.CUBE + "writes(1 1)").refused("solve()", -4).refused("reads(1)", -6);
    T.refused("solve()", -4);

    T.sentence("14. -5 (a number of M is above 99)");
    T.given(FULL + "reads(0 99;0 99)").refused("solve()", -5);
    T.given(FULL + "reads(" + "99 99;".repeat(30) + "99 99)").refused("solve()", -5);

    T.sentence("14. -5 (T, -U, D can't be a FIELD)");
    // T 3, U -3: the last one; T 4; -U 4; a whole root alone; a DISCRIMINANT of 49 alone.
    T.given(FULL + "reads(3 3)").is("solve()", -108).are("count(#)", 3, 3, 1);
    T.given(FULL + "reads(1 0;2 0)").is("solve()", -23).are("count(#)", 3, -2, 1);
    for (String word : new String[] {"0 4", "1 4", "4 0", "4 3", "0 0", "3 0", "0 1;0 1t", "0 0t", "0 1t", "9 9"}) {
      T.given(FULL + "reads(" + word + ")").refused("solve()", -5);
    }
  }

  private static void fault() {
    T.sentence("15. NONE ahead of any");
    T.is("fault()", -1).and("writes(x)").is("fault()", -1);

    T.sentence("15. NONE without one");
    T.given("").refused("reads(x)", -6).is("fault()", 0).is("reads(1 1)", 1).is("fault()", -1);

    T.sentence("15. of the latest read()");
    T.given("").refused("reads(1 x)", -6).is("fault()", 2).refused("reads(1 1;x)", -6).is("fault()", 4);
    T.and("writes(1) set(0, 1, 0, 0, 1) way(1) image(0) back(0) field(1, 1, 1) undo()").is("fault()", 4);
    T.given("reads(1 1)").refused("reads(1)", -6).is("undo()", 8).is("fault()", 1).is("count(10)", 0);
  }

  private static void undo() {
    T.sentence("16. the latest field() (told as 0), .. solve() (9) that was not REFUSED: that");
    String[] acts = {"field(0, 0, 2)", "set(0, 1, 2, 0, 3)", "measures(0, 0.5)", "combine(0, 0, 1, 2)", "begin(0, 1)", "step()",
      "go(2)", "keep(2, 3)", "reads(5 5;6 6)", "solve()"};
    for (int act = 0; act < 10; act++) {
      T.given(FULL + "reads(0 1) " + acts[act] + " way(1) writes(9)").is("count(11)", 8).is("undo()", act).is("count(11)", 7);
    }
    T.given(FULL).refused("reads(x)", -6).refused("go(0)", -1).refused("field(0, 0, 0)", -4).is("undo()", 7).is("undo()", 5);

    T.sentence("16. all but the TERM, TAPE, FAULT, what is told of REFUSED calls is as it was");
    for (String act : acts) {
      T.given(FULL + "reads(0 1)");
      String before = look();
      T.and(act + " way(1) writes(123)").refused("reads(1 x)", -6).and("writes(12)").is("undo()", actOf(acts, act));
      T.due("as it was ahead of " + act, look().equals(before));
      T.is("count(4)", 1).is("count(12)", 2).is("fault()", 2).is("count(18)", 1).is("count(13)", 0);
    }
    // Bytes behind what was read are not put back.
    T.given("writes(1 1)").is("read()", 1).is("undo()", 8).is("count(12)", 0).is("count(10)", 0);

    T.sentence("16. a COURSE comes back with its STEPS, PERIOD, WAY");
    T.given("way(1) " + Edges.CUBE + "way(0) go(60) field(1, 1, 1)");
    T.is("undo()", 0).is("count(6)", 1).are("count(#)", 0, 0, 2).is("undo()", 6).is("count(7)", 0).is("undo()", 4).is("count(5)", 0);
    T.given(SIXTY + "way(0) go(60) begin(0, 1)").is("undo()", 4).is("count(7)", 60).are("period(#)", 6, 54).refused("step()", -5);
    T.given(Edges.SHORT + "go(60) set(0, 1, 0, 0, 2) begin(0, 0)").is("undo()", 4).is("count(7)", 3).is("count(8)", 1);
    T.is("undo()", 1).are("value(0, #)", 3, 0, 0, 4).is("undo()", 6).is("step()", 1);

    T.sentence("16. 8 are kept");
    T.given("");
    for (int k = 1; k <= 10; k++) T.is("set(0, " + k + ", 0, 0, 1)", k).is("count(11)", Math.min(k, 8));
    for (int k = 9; k >= 2; k--) T.is("undo()", 1).is("value(0, 0)", k).is("count(11)", k - 2);
    T.refused("undo()", -4).is("value(0, 0)", 2);
    // So are they, when some were undone between.
    T.given("5*set(1, 7, 0, 0, 1) undo() undo()").is("count(11)", 3);
    for (int k = 1; k <= 7; k++) T.is("set(0, " + k + ", 0, 0, 1)", k).is("count(11)", Math.min(3 + k, 8));
    for (int k = 6; k >= 0; k--) T.is("undo()", 1).is("value(0, 0)", k);
    T.is("undo()", 1).is("value(1, 0)", 7).refused("undo()", -4).is("value(1, 0)", 7);

    T.sentence("16. what comes behind what was undone");
    T.given("set(0, 1, 0, 0, 1) set(0, 2, 0, 0, 1) undo() set(0, 3, 0, 0, 1)").is("count(11)", 2).is("undo()", 1);
    T.is("value(0, 0)", 1).is("undo()", 1).is("value(0, 0)", 0);

    T.sentence("16. -4 there is none");
    T.given("").refused("undo()", -4).given("way(1) writes(1 1) image(0)").refused("undo()", -4).refused("set(6, 0, 0, 0, 1)", -2);
    T.refused("undo()", -4).given("set(0, 1, 0, 0, 1) undo()").refused("undo()", -4).given(FULL + "back(1)").refused("undo()", -4);
  }

  private static int actOf(String[] acts, String act) {
    int found = -1;
    for (int k = 0; k < acts.length; k++) if (acts[k].equals(act)) found = k;
    return found;
  }

  /** FIELD, STORE, COURSE and WORD. */
  private static String look() {
    StringBuilder seen = new StringBuilder();
    for (int k = 0; k < 11; k++) if (k != 4) seen.append(T.ask("count(" + k + ")")).append(' ');
    for (int k = 0; k < 24; k++) seen.append(T.ask("value(" + k / 4 + ", " + k % 4 + ")")).append(' ');
    for (int k = 0; k < 9; k++) seen.append(T.ask("product(" + k / 3 + ", " + k % 3 + ")")).append(' ');
    for (int k = 0; k < 9; k++) seen.append(T.ask("word(" + k / 3 + ", " + k % 3 + ")")).append(' ');
    for (int k = 0; k < 8; k++) seen.append(T.ask("state(" + T.ask("count(7)") + ", " + (k > 3) + ", " + k % 4 + ")")).append(' ');
    return seen.append(T.ask("period(0)")).append(' ').append(T.ask("period(1)")).toString();
  }

  private static void image() {
    T.sentence("17. STEPS of the COURSE (NONE without one)");
    T.is("image(0)", -1).given(Edges.CUBE).is("image(0)", 0).given(Edges.CUBE + "step()").is("image(1)", 1);
    T.given(SIXTY + "go(60)").is("image(1)", 60).given(FULL + "field(1, 1, 1)").is("image(0)", -1);

    T.sentence("17. IMAGE k (0, 1)");
    T.given("set(0, 1, 0, 0, 1) image(0) set(0, 2, 0, 0, 1) image(1) set(0, 3, 0, 0, 1)").is("back(0)", -1).is("value(0, 0)", 1);
    T.is("back(1)", -1).is("value(0, 0)", 2).given("image(0)").refused("back(1)", -2).given("image(1)").refused("back(0)", -2);
    // In place of what was kept.
    T.given("set(0, 1, 0, 0, 1) image(0) set(0, 2, 0, 0, 1) image(0) set(0, 3, 0, 0, 1) back(0)").is("value(0, 0)", 2);

    T.sentence("17. of all but the TERM, TAPE, FAULT, what is told of REFUSED calls, what can be undone");
    T.given(FULL);
    String before = look();
    T.and("image(0)").is("count(11)", 8).is("count(12)", 3).and("field(1, 1, 1) way(1) reads(9 9) writes(12345)");
    T.is("back(0)", 4).is("count(4)", 1).is("count(12)", 5).is("count(11)", 0);
    T.due("as it was", look().equals(before));
    T.given("image(0)").refused("reads(1 x)", -6).and("back(0)").is("fault()", 2).is("count(18)", 1);

    T.sentence("17. -1");
    for (String far : new String[] {"-1", "2", "MAX", "MIN"}) T.given(FULL).refused("image(" + far + ")", -1);
  }

  private static void back() {
    T.sentence("18. back to IMAGE k: that number");
    T.given("image(1) " + Edges.CUBE).is("back(1)", -1).is("count(5)", 0);
    T.given(Edges.CUBE + "image(0) go(2) image(1) go(60)").is("back(1)", 2).is("count(7)", 2).is("back(0)", 0).is("count(7)", 0);
    T.is("back(1)", 2).is("back(1)", 2).is("step()", 3).are("period(#)", 2, 1).is("back(1)", 2).are("period(#)", -1, -1);
    T.given(SIXTY + "go(60) image(0) field(0, 0, 2)").is("back(0)", 60).are("period(#)", 6, 54).refused("step()", -5);

    T.sentence("18. nothing can be undone then");
    T.given(FULL).is("count(11)", 8).is("back(1)", -1).is("count(11)", 0).refused("undo()", -4).and("set(0, 1, 0, 0, 1)");
    T.is("count(11)", 1).is("undo()", 1).refused("undo()", -4);

    T.sentence("18. -1");
    for (String far : new String[] {"-1", "2", "MAX", "MIN"}) T.given(FULL).refused("back(" + far + ")", -1);

    T.sentence("18. -2 (it was not kept)");
    T.given("").refused("back(0)", -2).refused("back(1)", -2).given(FULL).refused("back(0)", -2).and("image(0)").is("back(0)", 4);
  }
}
