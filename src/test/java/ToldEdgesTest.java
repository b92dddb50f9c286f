/** The boundary cases that promises 19 to 44 name, a test for each sentence: what is told. */
public final class ToldEdgesTest {
  private static final Edges T = new Edges();
  private static final int UNTOLD = Edges.UNTOLD;
  private static final long NOTHING = Edges.NOTHING;
  /** A WORD, the last number of which is 9223372036854775807, that to the left of it 0. */
  private static final String LONGEST = "0 3t;0 3t;0 3t;0 3t;0 3t;0 3t;0 3t;0 3t;0 3t;0 2t;0 28t;0 6t;0 2t;0 4t;0 18t;0 3t;0 66t;"
      + "0 37t;0 6t;0 27t;0 12t;0 52t;0 4t";
  /** A WORD, the last number of which is 9223372036854775808, that to the left of it 0. */
  private static final String BEYOND = "0 3t;0 3t;0 3t;0 3t;0 3t;0 3t;0 3t;0 3t;0 3t;0 2t;0 2t;0 20t;0 9t;0 33t;0 28t;0 1t;0 35t;"
      + "0 17t;0 2t;0 1t;0 75t;0 61t;0 25t";
  private static final String[] FAR = {"-1", "3", "MAX", "MIN"};
  private static final String[] FAR_STORED = {"-1", "6", "MAX", "MIN"};
  /** By WAY 1; a PERIOD of 54 STEPS is found in the 60th. */
  private static final String SIXTY = "way(1) field(-3, 1, -2) set(0, 4, 1, 0, 1) set(1, 12, 0, -1, 1) begin(0, 1) ";
  /** What tells something of a COURSE, with what it answers without one. */
  private static final String[] OF_COURSES = {"state(0, false, 0)", "state(0, true, 4)", "digit(1, 0)", "product(0, 0)",
    "determinant()", "bounds(false, 0)", "outer(true, 0)", "inverse(0, 0)", "side(false, 1, 1)", "simplest(true, 0)", "shared(0)",
    "period(0)", "period(1)", "round(0, 0)", "unit(0)", "equation(0)", "isRelation(0, 0, 0)", "relation(9, 0)", "count(5)",
    "count(6)", "count(7)", "count(8)", "count(9)"};
  private static final long[] WITHOUT = {UNTOLD, UNTOLD, -1, NOTHING, 0, NOTHING, -1, NOTHING, -2, NOTHING, NOTHING, -1, -1,
    NOTHING, UNTOLD, NOTHING, 0, UNTOLD, 0, 0, 0, 0, 0};

  public static void main(String[] args) {
    values();
    squares();
    norms();
    compared();
    states();
    digits();
    withoutCourse();
    products();
    bounds();
    inverse();
    side();
    fractions();
    period();
    rounds();
    units();
    relations();
    words();
    spelt();
    asks();
    would();
    count();
    status();
    T.end("the boundary cases of promises 19 to 44");
  }

  /** A teller that takes a row and a column 0 .. 2. */
  private static void isSquare(String given, String teller, long none) {
    for (String far : FAR) {
      T.given(given).is(teller + "(" + far + ", 0)", none).is(teller + "(0, " + far + ")", none).is(teller + "(2, " + far + ")", none);
    }
    for (int k = 0; k < 9; k++) T.due(teller, T.ask(teller + "(" + k / 3 + ", " + k % 3 + ")") != none);
  }

  private static void values() {
    T.sentence("19. a, b, c, d (what 0 .. 3), SIGN -1, 0, 1 (4), FLOOR (5)");
    T.given("set(0, 150, -150, 149, 7) set(5, 1, 100, -80, 150) set(4, -1, -100, 80, 150)");
    T.are("value(0, #)", 150, -150, 149, 7, 1, 28).are("value(5, #)", 1, 100, -80, 150, 1, 0);
    T.are("value(4, #)", -1, -100, 80, 150, -1, -1).are("value(1, #)", 0, 0, 0, 1, 0, 0);

    T.sentence("19. Integer.MIN_VALUE for others");
    for (String far : FAR_STORED) {
      T.given("set(0, 1, 0, 0, 1)").is("value(0, " + far + ")", UNTOLD);
      for (int what = 0; what < 6; what++) T.is("value(" + far + ", " + what + ")", UNTOLD);
    }
    T.is("status()", 0).is("count(14)", 0);
  }

  private static void squares() {
    T.sentence("20. row k, column j of a VALUE's MATRIX");
    // By the greatest numbers: ROOT 3.95 of 3, 3, 3.
    T.given("field(3, 3, 3) set(0, 150, 150, 150, 1)").are("matrix(0, 0, #)", 150, 150, 150).are("matrix(0, 1, #)", 450, 600, 600);
    T.are("matrix(0, 2, #)", 1800, 2250, 2400).and("set(5, -150, 150, -150, 149)").are("matrix(5, 1, #)", -450, -600, -300);
    T.are("matrix(1, 2, #)", 0, 0, 0);

    T.sentence("20. NOTHING for others");
    for (String far : FAR_STORED) T.is("matrix(" + far + ", 0, 0)", NOTHING);
    for (String far : FAR) T.is("matrix(0, " + far + ", 0)", NOTHING).is("matrix(0, 0, " + far + ")", NOTHING);
  }

  private static void norms() {
    T.sentence("21. NORM, TRACE, SECOND in lowest terms");
    T.given("set(0, 1, 1, 0, 3)").are("norm(0, 0, #)", 1, 9).are("norm(0, 1, #)", 1, 1).are("norm(0, 2, #)", 1, 3);
    T.given("set(0, -1, 0, 0, 2)").are("norm(0, 0, #)", -1, 8).are("norm(0, 1, #)", -3, 2).are("norm(0, 2, #)", 3, 4);
    T.given("").are("norm(5, 0, #)", 0, 1).are("norm(5, 1, #)", 0, 1).are("norm(5, 2, #)", 0, 1);
    T.given("set(0, 1, 0, 0, 150)").are("norm(0, 0, #)", 1, 3375000).are("norm(0, 1, #)", 1, 50).are("norm(0, 2, #)", 1, 7500);
    T.given("field(3, 3, 3) set(0, 150, 150, 150, 149)").are("norm(0, 0, #)", 3375000, 3307949).are("norm(0, 1, #)", 3150, 149);
    T.given("set(0, 149, 0, 0, 150)").are("norm(0, 0, #)", 3307949, 3375000).are("norm(0, 2, #)", 22201, 7500);

    T.sentence("21. NOTHING for others");
    for (String far : FAR_STORED) T.is("norm(" + far + ", 0, 0)", NOTHING);
    for (String far : FAR) T.is("norm(0, " + far + ", 0)", NOTHING);
    for (String far : new String[] {"-1", "2", "MAX", "MIN"}) T.is("norm(0, 0, " + far + ")", NOTHING);
  }

  private static void compared() {
    T.sentence("22. SIGN of VALUE i less VALUE j");
    // 63 by 50, and what is above and below ROOT ROOT by 0.0000002.
    T.given("set(0, 0, 1, 0, 1) set(1, 63, 0, 0, 50) set(2, 1, 100, -80, 150) set(3, 0, 0, 0, 1) set(4, -1, -100, 80, 150)");
    T.are("compare(0, #)", 0, -1, 1, 1, 1, 1).are("compare(1, #)", 1, 0, 1, 1, 1, 1).are("compare(2, #)", -1, -1, 0, 1, 1, 1);
    T.are("compare(3, #)", -1, -1, -1, 0, 1, 0).are("compare(4, #)", -1, -1, -1, -1, 0, -1);
    T.given("set(0, 150, 150, 150, 1) set(1, 150, 150, 149, 1) set(2, -150, -150, -150, 1) set(3, 149, 149, 149, 149)");
    T.are("compare(0, #)", 0, 1, 1, 1, 1).are("compare(2, #)", -1, -1, 0, -1, -1);

    T.sentence("22. -2 for others");
    for (String far : FAR_STORED) T.is("compare(" + far + ", 0)", -2).is("compare(0, " + far + ")", -2).is("compare(5, " + far + ")", -2);
    T.is("count(14)", 0).is("status()", 0).is("compare(5, 0)", 0);
  }

  private static void states() {
    T.sentence("23. STATE k (0 .. STEPS; of v, if other)");
    T.given(Edges.CUBE + "2*step()").are("state(0, false, #)", 0, 1, 0, 1, 1).are("state(0, true, #)", 0, 0, 1, 1, 1);
    T.are("state(2, false, #)", 2, 1, 0, 1, 3).are("state(2, true, #)", 1, 1, 1, 1, 3);
    T.given(SIXTY + "go(60)").is("state(60, true, 4)", T.ask("state(6, true, 4)")).is("state(61, true, 4)", UNTOLD);

    T.sentence("23. Integer.MIN_VALUE for others");
    T.given(Edges.CUBE + "2*step()").is("state(3, false, 0)", UNTOLD).is("state(3, true, 4)", UNTOLD).is("state(-1, false, 0)", UNTOLD);
    T.is("state(MAX, false, 0)", UNTOLD).is("state(MIN, true, 0)", UNTOLD).is("state(0, false, 5)", UNTOLD).is("state(0, true, 5)", UNTOLD);
    T.is("state(1, false, -1)", UNTOLD).is("state(1, true, -1)", UNTOLD).is("state(1, true, MAX)", UNTOLD).is("state(1, true, MIN)", UNTOLD);
    // A STATE that a REFUSED STEP would have had, one that was undone, one of a COURSE before.
    T.given("set(0, 1, 0, 0, 100) begin(0, 0)").refused("step()", -5).is("state(1, true, 0)", UNTOLD).is("state(0, true, 0)", 1);
    T.given(Edges.CUBE + "go(3) undo()").is("state(1, false, 0)", UNTOLD).given(Edges.CUBE + "go(3) begin(0, 1)").is("state(1, false, 0)", UNTOLD);
  }

  private static void digits() {
    T.sentence("24. of STEP k (1 on)");
    T.given(Edges.CUBE + "3*step()").are("digit(1, #)", 1, 1, 0).are("digit(3, #)", 3, 3, 0);
    T.given("way(1) " + Edges.CUBE + "step()").are("digit(1, #)", 1, 1, 1);
    T.given(SIXTY + "go(60)").is("digit(60, 0)", T.ask("state(59, false, 4)")).is("digit(60, 1)", T.ask("state(59, true, 4)"));
    T.is("digit(61, 0)", -1);
    T.given("set(0, 99, 1, 0, 1) set(1, 98, 1, 0, 1) set(2, 149, 0, 0, 150) begin(1, 1) step()").are("digit(1, #)", 99, 99, 0);

    T.sentence("24. NONE for others");
    T.given(Edges.CUBE).is("digit(1, 0)", -1).and("2*step()").is("digit(2, 2)", 0).is("digit(3, 2)", -1).is("digit(0, 2)", -1).is("digit(0, 0)", -1).is("digit(0, 1)", -1);
    T.is("digit(-1, 0)", -1).is("digit(MAX, 0)", -1).is("digit(MIN, 0)", -1).is("digit(1, 3)", -1).is("digit(1, -1)", -1);
    T.is("digit(1, 4)", -1).is("digit(1, MAX)", -1).is("digit(2, MIN)", -1);
  }

  private static void withoutCourse() {
    T.sentence("23 .. 38, 43. without a COURSE");
    for (String given : new String[] {"", Edges.CUBE + "go(60) field(0, 0, 2)", "reads(1 1) solve()", Edges.CUBE + "undo()",
      "image(0) " + Edges.CUBE + "go(60) back(0)"}) {
      T.given(given);
      for (int k = 0; k < OF_COURSES.length; k++) T.is(OF_COURSES[k], WITHOUT[k]);
      T.refused("step()", -3).refused("go(5)", -3).refused("keep(0, 1)", -3);
    }

    T.sentence("27, 28, 31 .. 36. with a COURSE, without BOUNDS, without a PERIOD");
    T.given(Edges.CUBE).is("bounds(false, 0)", NOTHING).is("outer(true, 0)", -1).is("simplest(false, 0)", NOTHING);
    T.is("shared(0)", NOTHING).is("period(0)", -1).is("period(1)", -1).is("round(0, 0)", NOTHING).is("unit(0)", UNTOLD);
    T.is("equation(0)", NOTHING).is("product(0, 0)", 1).is("determinant()", 1).is("inverse(0, 0)", 1).is("side(true, 1, 1)", 1);
  }

  private static void products() {
    T.sentence("25. PRODUCT, row i, column j; NOTHING for others");
    isSquare(Edges.CUBE + "3*step() ", "product", NOTHING);
    T.given(Edges.CUBE + "3*step()").are("product(0, #)", 1, 3, 12).are("product(1, #)", 1, 4, 15).are("product(2, #)", 1, 5, 19);

    T.sentence("26. the determinant of PRODUCT");
    T.given("way(1) " + Edges.CUBE).is("determinant()", 1).and("step()").is("determinant()", -1);
    T.given("way(1) " + Edges.CUBE + "2*step()").is("determinant()", T.ask("count(9)") % 2 == 0 ? 1 : -1);
    // Numbers the products of which are far beyond a long.
    T.given(Edges.CUBE + "33*step()").is("determinant()", 1).given(Edges.SLOW + "60*step()").is("determinant()", 1);
    for (String given : new String[] {SIXTY + "go(60)", SIXTY + "go(59)", "way(1) " + Edges.CUBE + "go(40) go(60)"}) {
      T.given(given).is("determinant()", T.ask("count(9)") % 2 == 0 ? 1 : -1);
    }
  }

  private static void bounds() {
    T.sentence("27. of the least the upper number (what 0), the lower one (1), of the greatest these (2, 3)");
    T.given(Edges.CUBE + "4*step()").are("bounds(false, #)", 5, 4, 4, 3, NOTHING).are("bounds(true, #)", 19, 12, 5, 3, NOTHING);

    T.sentence("27. in lowest terms");
    // Columns of 12, 15 and 46, 58.
    T.given(Edges.CUBE + "4*step()").is("product(0, 1)", 12).is("product(1, 1)", 15).are("bounds(false, #)", 5, 4);
    T.given("set(0, -1, 1, 0, 1) set(1, 0, 0, 1, 1) begin(0, 1) 3*step()").are("product(1, #)", 0, 1, 3).are("bounds(false, #)", 0, 1);

    T.sentence("27. NOTHING for others");
    T.given(Edges.CUBE + "4*step()");
    for (String far : new String[] {"-1", "4", "MAX", "MIN"}) T.is("bounds(false, " + far + ")", NOTHING).is("bounds(true, " + far + ")", NOTHING);

    T.sentence("28. the column by which the FRACTION is least (what 0), greatest (1)");
    T.given(Edges.CUBE + "3*step()").are("outer(false, #)", 0, 1, -1).are("outer(true, #)", 0, 1, -1);
    T.given(Edges.CUBE + "4*step()").are("outer(false, #)", 1, 0, -1).are("outer(true, #)", 1, 0, -1);

    // Of v 1, 14 by 10, 15 by 10; of u 1 by 2, 0, 1 by 2.
    T.given("field(-1, -1, 2) set(0, 1, -1, 0, 2) set(1, 0, 1, 1, 1) begin(0, 1) 3*step()").are("product(2, #)", 1, 14, 15);
    T.are("product(0, #)", 1, 10, 10).are("outer(true, #)", 0, 2).are("bounds(true, #)", 1, 1, 3, 2);
    T.given("way(1) field(0, 1, 1) set(0, 1, 0, 0, 2) set(1, 0, -1, 1, 1) begin(0, 1) 3*step()").are("product(1, #)", 1, 0, 1);
    T.are("product(0, #)", 2, 1, 2).are("outer(false, #)", 1, 0).are("bounds(false, #)", 0, 1, 1, 2);

    T.sentence("28. the first of like ones");
    // Of u 1, 2, 2; of v 1, 1, 2.
    T.given("set(0, 3, -1, 0, 1) set(1, -3, 1, 3, 2) begin(0, 1) 3*step()").are("outer(false, #)", 0, 1).are("outer(true, #)", 0, 2);
    for (int j = 0; j < 3; j++) {
      T.due("u's FRACTIONS", T.ask("product(1, " + j + ")"), T.ask("product(0, " + j + ")") * (j == 0 ? 1 : 2));
      T.due("v's FRACTIONS", T.ask("product(2, " + j + ")"), T.ask("product(0, " + j + ")") * (j == 2 ? 2 : 1));
    }

    T.sentence("28. NONE without BOUNDS, for others");
    T.given(Edges.CUBE + "2*step()").are("outer(false, #)", -1, -1).are("outer(true, #)", -1, -1).and("step()");
    for (String far : new String[] {"-1", "2", "MAX", "MIN"}) T.is("outer(false, " + far + ")", -1).is("outer(true, " + far + ")", -1);
  }

  private static void inverse() {
    T.sentence("29. INVERSE, row i, column j; NOTHING for others");
    isSquare(Edges.CUBE + "3*step() ", "inverse", NOTHING);
    T.given(Edges.CUBE).are("inverse(0, #)", 1, 0, 0).are("inverse(1, #)", 0, 1, 0).are("inverse(2, #)", 0, 0, 1);
    T.given("way(1) " + Edges.CUBE + "step()").are("inverse(0, #)", -1, 0, 1).are("inverse(1, #)", -1, 1, 0).are("inverse(2, #)", 1, 0, 0);

    T.sentence("29. NOTHING, if a number of PRODUCT is above 1,000,000,000");
    // The greatest is 999999415.
    T.given("way(1) field(-1, -2, 1) set(0, 64, -2, -3, 1) set(1, 3, -1, -2, 1) begin(0, 1) 43*step()").is("count(7)", 43);
    T.due("the greatest", greatest("product"), 999999415);
    for (int k = 0; k < 9; k++) {
      long sum = 0;
      for (int n = 0; n < 3; n++) sum += T.ask("product(" + k / 3 + ", " + n + ")") * T.ask("inverse(" + n + ", " + k % 3 + ")");
      T.due("PRODUCT and INVERSE", sum, k % 4 == 0 ? 1 : 0);
    }
    // It is 1000001910.
    T.given("field(0, 3, 3) set(0, 3, -1, 2, 3) set(1, -3, -2, 3, 3) begin(0, 1) 10*step()");
    T.due("the greatest", greatest("product"), 1000001910);
    for (int k = 0; k < 9; k++) T.is("inverse(" + k / 3 + ", " + k % 3 + ")", NOTHING);
  }

  private static long greatest(String teller) {
    long most = 0;
    for (int k = 0; k < 9; k++) most = Math.max(most, T.ask(teller + "(" + k / 3 + ", " + k % 3 + ")"));
    return most;
  }

  private static void side() {
    T.sentence("30. SIGN of u (of v, if other) of STATE 0 less x by y");
    T.given("set(0, 1, 0, 0, 3) set(1, 0, 0, 1, 1) begin(0, 1) step()").is("side(false, 333, 999)", 0).is("side(false, 334, 999)", -1);
    T.is("side(false, 332, 999)", 1).is("side(true, 1, 3)", 1).is("side(true, 999, 629)", -1).is("side(true, 998, 629)", 1);
    // 504 ROOT is 635.0002; by 3, 3, 3 ROOT is 3.9514, -150 less 150 ROOT and 149 ROOT ROOT by 57 is 27.784.
    T.given(Edges.CUBE).is("side(false, 635, 504)", 1).is("side(false, 636, 504)", -1).is("side(false, 0, 1)", 1);
    T.given("field(3, 3, 3) set(0, -150, -150, 149, 57) begin(0, 0)").is("side(true, 999, 35)", -1).is("side(true, 999, 36)", 1);

    T.sentence("30. x -999 .. 999, y 1 .. 999");
    T.given(Edges.CUBE).is("side(false, 999, 1)", -1).is("side(false, -999, 1)", 1).is("side(true, 999, 999)", 1).is("side(true, -999, 999)", 1);
    T.is("side(false, 1000, 1)", -2).is("side(false, -1000, 1)", -2).is("side(true, 1, 1000)", -2).is("side(true, 1, 0)", -2);
    T.is("side(true, 1, -1)", -2).is("side(true, MAX, 1)", -2).is("side(true, MIN, 1)", -2).is("side(true, 1, MAX)", -2);
    T.is("side(true, 1, MIN)", -2).is("status()", 0).is("count(14)", 0);
  }

  private static void fractions() {
    T.sentence("31. the upper number (what 0), the lower one (1); NOTHING for others");
    T.given(Edges.CUBE + "4*step()").are("simplest(false, #)", 4, 3, NOTHING).are("simplest(true, #)", 5, 3, NOTHING);
    for (String far : FAR) T.is("simplest(false, " + far + ")", NOTHING).is("simplest(true, " + far + ")", NOTHING);

    T.sentence("31. NOTHING without BOUNDS");
    T.given(Edges.CUBE + "2*step()").are("simplest(false, #)", NOTHING, NOTHING).are("simplest(true, #)", NOTHING, NOTHING);

    T.sentence("32. q (what 0), the whole number for u (1), for v (2); NOTHING for others");
    T.given(Edges.CUBE + "4*step()").are("shared(#)", 3, 4, 5, NOTHING);
    for (String far : FAR) T.is("shared(" + far + ")", NOTHING);

    T.sentence("32. NOTHING, if a number of BOUNDS is above 1,000,000,000");
    // The greatest is 999173285, then 1016709746; by 9353 there are some within BOUNDS of both.
    T.given("field(1, 3, 2) set(0, 1, -1, 1, 4) set(1, 62, -2, 0, 1) begin(0, 1) 7*step()").are("shared(#)", 9353, 11215, 532905);
    T.due("the greatest of BOUNDS", greatestBound(), 999173285);
    T.given("field(1, 3, 2) set(0, 1, -1, 1, 4) set(1, 63, -2, 0, 1) begin(0, 1) 7*step()").are("shared(#)", NOTHING, NOTHING, NOTHING);
    T.due("the greatest of BOUNDS", greatestBound(), 1016709746);
    // By less whole parts of v the same q.
    T.given("field(1, 3, 2) set(0, 1, -1, 1, 4) set(1, 6, -2, 0, 1) begin(0, 1) 7*step()").are("shared(#)", 9353, 11215, 9137);

    T.sentence("32. NOTHING, if there is none");
    T.given(Edges.CUBE + "9*step()").is("shared(0)", T.ask("product(0, 0)")).and("step()").are("shared(#)", NOTHING, NOTHING, NOTHING);

    T.sentence("32. NOTHING without BOUNDS");
    T.given(Edges.CUBE + "2*step()").are("shared(#)", NOTHING, NOTHING, NOTHING);
  }

  private static long greatestBound() {
    long most = 0;
    for (int k = 0; k < 8; k++) most = Math.max(most, T.ask("bounds(" + (k > 3) + ", " + k % 4 + ")"));
    return most;
  }

  private static void period() {
    T.sentence("33. START (what 0), LENGTH (1) of the PERIOD");
    T.given(Edges.CUBE + "3*step()").are("period(#)", 2, 1, -1).given(Edges.SLOW + "step()").are("period(#)", 0, 1, -1);
    T.given(SIXTY + "go(60)").are("period(#)", 6, 54, -1);

    T.sentence("33. NONE");
    T.given(Edges.CUBE + "2*step()").are("period(#)", -1, -1).given(SIXTY + "go(59)").are("period(#)", -1, -1).and("step()");
    T.is("period(2)", -1).is("period(-1)", -1).is("period(MAX)", -1).is("period(MIN)", -1);
    T.given(Edges.SHORT + "go(60)").are("period(#)", -1, -1);
    T.given(Edges.CUBE + "go(60) begin(0, 1)").are("period(#)", -1, -1).given(Edges.CUBE + "go(60) undo()").are("period(#)", -1, -1);
    T.given(Edges.CUBE + "3*step() undo()").are("period(#)", -1, -1);
  }

  private static void rounds() {
    T.sentence("34. ROUND, row i, column j; NOTHING for others");
    isSquare(Edges.CUBE + "3*step() ", "round", NOTHING);
    T.given(Edges.CUBE + "5*step()").are("round(0, #)", 0, 0, 1).are("round(1, #)", 1, 0, 3).are("round(2, #)", 0, 1, 3);

    T.sentence("34. NOTHING without a PERIOD");
    T.given(Edges.CUBE + "2*step()").are("round(0, #)", NOTHING, NOTHING, NOTHING);

    T.sentence("36. T (what 0), U (1), D (2); NOTHING for others");
    T.given(Edges.CUBE + "3*step()").are("equation(#)", 3, -3, 1, NOTHING);
    for (String far : FAR) T.is("equation(" + far + ")", NOTHING);

    T.sentence("36. NOTHING without a PERIOD");
    T.given(Edges.CUBE + "2*step()").are("equation(#)", NOTHING, NOTHING, NOTHING);

    T.sentence("36. NOTHING, if a number of ROUND is above 1,000,000,000");
    T.given("field(2, 1, -3) set(0, 3, -1, 1, 3) set(1, -1, -2, 0, 3) begin(0, 1) go(60)");
    T.due("the greatest", greatest("round"), 967105369);
    T.is("equation(2)", 1).is("equation(0)", T.ask("round(0, 0)") + T.ask("round(1, 1)") + T.ask("round(2, 2)"));
    T.due("U", T.ask("equation(1)"), minor(0, 1) + minor(0, 2) + minor(1, 2));
    T.given("way(1) field(-1, -2, 2) set(0, 1, 2, 0, 4) set(1, 1, 2, -1, 4) begin(0, 1) go(60)");
    T.due("the greatest", greatest("round"), 1054992739);
    T.are("equation(#)", NOTHING, NOTHING, NOTHING);
    // A ROUND of 54 STEPS is told, but has no EQUATION here.
    T.given(SIXTY + "go(60)").are("equation(#)", NOTHING, NOTHING, NOTHING);
    T.due("its numbers are", greatest("round") > 1000000000L);
  }

  private static long minor(int i, int j) {
    return cell(i, i) * cell(j, j) - cell(i, j) * cell(j, i);
  }

  private static long cell(int i, int j) {
    return T.ask("round(" + i + ", " + j + ")");
  }

  private static void units() {
    T.sentence("35. UNIT: a, b, c, d (what 0 .. 3)");
    T.given(Edges.CUBE + "3*step()").are("unit(#)", 1, 1, 1, 1, UNTOLD);
    T.given("field(2, 1, 2) set(0, 0, -1, 1, 2) set(1, 0, 1, 0, 1) begin(0, 1) go(60)").are("unit(#)", 0, 1, 1, 2);

    T.sentence("35. Integer.MIN_VALUE for others, without a PERIOD");
    for (String far : new String[] {"-1", "4", "MAX", "MIN"}) T.is("unit(" + far + ")", UNTOLD);
    T.given(Edges.CUBE + "2*step()").are("unit(#)", UNTOLD, UNTOLD, UNTOLD, UNTOLD);

    T.sentence("35. Integer.MIN_VALUE, if it can't be a VALUE");
    T.given("field(-1, 1, -1) set(0, 3, -3, -1, 1) set(1, -2, -2, 3, 1) begin(0, 1) go(60)").are("unit(#)", 81, -125, 149, 1);
    // Its greatest number is 151.
    T.given("field(1, -2, 1) set(0, 1, 1, -3, 1) set(1, 1, 2, -1, 1) begin(0, 1) go(60)").are("unit(#)", UNTOLD, UNTOLD, UNTOLD, UNTOLD);
    T.due("the greatest", greatestOfUnit(), 151);
    T.given(SIXTY + "go(60)").are("unit(#)", UNTOLD, UNTOLD, UNTOLD, UNTOLD);
  }

  /** UNIT by its numbers, as they are told: the greatest in lowest terms. */
  private static long greatestOfUnit() {
    long start = T.ask("period(0)");
    long[] u = new long[4];
    long[] v = new long[4];
    for (int what = 0; what < 4; what++) {
      u[what] = T.ask("state(" + start + ", false, " + what + ")");
      v[what] = T.ask("state(" + start + ", true, " + what + ")");
    }
    long[] unit = {cell(0, 0) * u[3] * v[3], 0, 0, u[3] * v[3]};
    long common = unit[3];
    for (int what = 0; what < 3; what++) {
      unit[what] += cell(0, 1) * u[what] * v[3] + cell(0, 2) * v[what] * u[3];
      common = gcd(common, Math.abs(unit[what]));
    }
    long most = 0;
    for (long number : unit) most = Math.max(most, Math.abs(number) / common);
    return most;
  }

  private static long gcd(long x, long y) {
    return y == 0 ? x : gcd(y, x % y);
  }

  private static void relations() {
    T.sentence("37. k, l, m (-999 .. 999)");
    T.given("set(0, 1, 0, 0, 1) set(1, 1, 0, 0, 1) begin(0, 1)").is("isRelation(999, -999, 0)", 1).is("isRelation(-999, 0, 999)", 1);
    T.is("isRelation(0, 999, -999)", 1).is("isRelation(1000, -1000, 0)", 0).is("isRelation(1000, -500, -500)", 0);
    T.is("isRelation(-1000, 500, 500)", 0).is("isRelation(500, -1000, 500)", 0).is("isRelation(-500, 1000, -500)", 0);
    T.is("isRelation(-500, -500, 1000)", 0).is("isRelation(500, 500, -1000)", 0).is("isRelation(500, 499, -999)", 1);
    T.is("isRelation(0, MIN, MIN)", 0).is("isRelation(MIN, 0, 0)", 0).is("isRelation(0, MIN, 0)", 0).is("isRelation(0, 0, MIN)", 0);

    T.sentence("37. false without a COURSE");
    T.given("set(0, 1, 0, 0, 1)").is("isRelation(0, 0, 0)", 0).given(Edges.CUBE + "field(0, 0, 2)").is("isRelation(0, 0, 0)", 0);

    T.sentence("38. the LEAST RELATION of n (1 .. 9)");
    T.given("set(0, 1, 0, 0, 1) begin(0, 0)").are("relation(1, #)", -1, 0, 1).are("relation(9, #)", -1, 0, 1);
    T.given("set(0, 1, 0, 0, 9) set(1, 0, 1, 0, 1) begin(0, 1)").are("relation(9, #)", -1, 9, 0).is("relation(8, 1)", UNTOLD);
    T.given("set(0, 2, 0, 0, 1) set(1, 0, 1, 0, 1) begin(0, 1)").are("relation(2, #)", -2, 1, 0).is("relation(1, 1)", UNTOLD);

    T.sentence("38. Integer.MIN_VALUE without one, for others");
    T.given("set(0, 1, 0, 0, 1) begin(0, 0)").is("relation(0, 0)", UNTOLD).is("relation(10, 0)", UNTOLD).is("relation(-1, 0)", UNTOLD);
    T.is("relation(MAX, 0)", UNTOLD).is("relation(MIN, 0)", UNTOLD);
    for (String far : FAR) T.is("relation(9, " + far + ")", UNTOLD);
    // Of a COURSE that is no more.
    T.given("set(0, 1, 0, 0, 1) begin(0, 0) field(0, 0, 2)").are("relation(9, #)", UNTOLD, UNTOLD, UNTOLD);
    T.given(Edges.CUBE).is("relation(9, 0)", UNTOLD).given("set(0, 1, 0, 0, 10) set(1, 0, 1, 0, 1) begin(0, 1)").is("relation(9, 0)", UNTOLD);
  }

  private static void words() {
    T.sentence("39. DIGITS k of the WORD (0 on)");
    T.given("reads(0 99t;99 0)").are("word(0, #)", 0, 99, 1).are("word(1, #)", 99, 0, 0);
    T.given("reads(" + "1 1;".repeat(39) + "5 6t)").are("word(39, #)", 5, 6, 1).are("word(38, #)", 1, 1, 0);

    T.sentence("39. NONE for others");
    T.is("word(40, 0)", -1).given("").are("word(0, #)", -1, -1, -1).and("reads(0 99t;99 0)").are("word(2, #)", -1, -1, -1);
    T.is("word(-1, 0)", -1).is("word(-1, 2)", -1).is("word(MAX, 0)", -1).is("word(MIN, 0)", -1);
    for (String far : FAR) T.is("word(0, " + far + ")", -1).is("word(1, " + far + ")", -1);
    // A shorter WORD has no more of the one before.
    T.and("reads(7 7)").is("word(1, 0)", -1).is("undo()", 8).is("word(1, 0)", 99);
  }

  private static void spelt() {
    T.sentence("40. SQUARES of the WORD, the first one first, together");
    T.given("reads(1 2;3 4t)").are("spelt(0, #)", 1, 0, 4).are("spelt(1, #)", 1, 0, 5).are("spelt(2, #)", 2, 1, 11);
    isSquare("reads(1 2;3 4t)", "spelt", NOTHING);

    T.sentence("40. NOTHING without a WORD");
    T.given("").are("spelt(0, #)", NOTHING, NOTHING, NOTHING).given("reads(1 1) undo()").is("spelt(2, 2)", NOTHING);

    T.sentence("40. NOTHING beyond a long");
    // With all DIGITS TURNED and a 0 the last number is that of a fraction told by whole parts.
    T.given("reads(" + LONGEST + ")").is("spelt(2, 2)", Long.MAX_VALUE);
    T.due("another", T.ask("spelt(0, 0)") > 0 && T.ask("spelt(0, 2)") > 0 && T.ask("spelt(2, 0)") > 0);
    // Once that number is right; twice it, or it and another one, is beyond.
    T.given("reads(" + LONGEST + ";0 0;1 0)").is("spelt(2, 2)", Long.MAX_VALUE).is("spelt(2, 0)", Long.MAX_VALUE);
    T.given("reads(" + LONGEST + ";0 0;2 0)").is("spelt(2, 2)", NOTHING).is("spelt(2, 0)", Long.MAX_VALUE);
    T.given("reads(" + LONGEST + ";0 0;1 1)").is("spelt(2, 2)", NOTHING).is("spelt(2, 0)", Long.MAX_VALUE);
    // 9223372036854775808; 18446744073709551621, that is 5 by wrap-around.
    T.given("reads(" + BEYOND + ")").is("spelt(2, 2)", NOTHING).is("spelt(1, 1)", 1);
    T.due("another", T.ask("spelt(0, 0)") > 0 && T.ask("spelt(0, 2)") > 0 && T.ask("spelt(2, 0)") > 0);
    T.given("reads(0 3t;0 3t;0 3t;0 3t;0 3t;0 3t;0 3t;0 3t;0 3t;0 3t;0 1t;0 5t;0 15t;0 15t;0 16t;0 12t;0 5t;0 9t;0 2t;0 1t;0 48t;"
        + "0 56t;0 47t;0 21t)").is("spelt(2, 2)", NOTHING).is("spelt(0, 1)", 0);
    // 99 times a number and another one: 56416411211308876 by wrap-around.
    T.given("reads(0 9t;0 2t;0 9t;0 18t;0 47t;0 47t;0 8t;0 5t;0 4t;0 4t;0 3t;0 27t;0 9t;0 3t;0 3t;0 3t;0 3t;0 3t;0 3t;0 3t;0 3t;"
        + "0 3t;0 99t)").is("spelt(2, 2)", NOTHING).is("spelt(2, 0)", 186330748220021953L);
    // A number beyond a long stays that, and so is what comes of it.
    T.given("reads(" + BEYOND + ";0 0)").is("spelt(2, 1)", NOTHING).is("spelt(2, 0)", 0);
    T.given("reads(" + BEYOND + ";0 0;0 0)").is("spelt(2, 0)", NOTHING).is("spelt(2, 2)", 0);
    T.given("reads(" + BEYOND + ";0 0;1 1)").is("spelt(2, 2)", NOTHING).is("spelt(2, 0)", NOTHING);
    T.given("reads(" + BEYOND + ";0 0;0 0;1 0)").is("spelt(2, 2)", NOTHING).is("spelt(2, 1)", 0);
    T.given("reads(" + "99 99;".repeat(32) + "99 99)");
    for (int k = 0; k < 9; k++) T.is("spelt(" + k / 3 + ", " + k % 3 + ")", NOTHING);
    T.given("reads(" + "0 0;".repeat(39) + "0 0)").are("spelt(0, #)", 0, 0, 1).are("spelt(1, #)", 1, 0, 0).are("spelt(2, #)", 0, 1, 0);
  }

  private static void asks() {
    T.sentence("41. how many of its first DIGITS are those of the COURSE's STEPS, one by one");
    T.given("reads(1 1;2 3;3 3;3 3) " + Edges.CUBE).is("asks(1)", 0).is("step()", 1).is("asks(1)", 1).is("go(60)", 2).is("asks(1)", 3);
    T.is("step()", 4).is("asks(1)", 4).is("step()", 5).is("asks(1)", 4);
    T.given("reads(1 1;2 3;3 3;3 4) " + Edges.CUBE + "6*step()").is("asks(1)", 3).given("reads(2 1;2 3) " + Edges.CUBE + "6*step()").is("asks(1)", 0);
    T.given("reads(1 2;2 3) " + Edges.CUBE + "6*step()").is("asks(1)", 0).given("reads(1 1t;2 3) " + Edges.CUBE + "6*step()").is("asks(1)", 0);
    T.given("reads(1 1;2 4;3 3) " + Edges.CUBE + "6*step()").is("asks(1)", 1).given("reads(1 1t) way(1) " + Edges.CUBE + "step()").is("asks(1)", 1);
    T.given("reads(1 1) way(1) " + Edges.CUBE + "step()").is("asks(1)", 0);
    T.given("reads(" + "1 1;".repeat(39) + "1 1) " + Edges.SLOW + "60*step()").is("asks(1)", 40).is("asks(0)", 1);

    T.sentence("41. 0 without a COURSE");
    T.given("reads(1 1)").is("asks(1)", 0).given("reads(1 1) " + Edges.CUBE + "step() field(1, 1, 1)").is("asks(1)", 0).is("asks(0)", 1);

    T.sentence("41. NONE without a WORD");
    T.given(Edges.CUBE + "go(60)").are("asks(#)", -1, -1).refused("reads(1)", -6).are("asks(#)", -1, -1);
    for (String far : new String[] {"-1", "2", "MAX", "MIN"}) T.given("reads(1 1)").is("asks(" + far + ")", -1);
  }

  /** would() of VALUES 0 and 1: STEPS, why it is over, LENGTH; and the COURSE itself. */
  private static void would(String given, int way, long steps, long why, long length) {
    T.given(given).are("would(0, 1, " + way + ", #)", steps, why, length, UNTOLD);
    T.and("way(" + way + ") begin(0, 1)");
    if (steps > 0) T.is("go(60)", steps);
    T.is("count(7)", steps).is("period(1)", length).is("count(8)", why == 1 ? 1 : 0);
  }

  private static void would() {
    T.sentence("42. why it is over: 1 it ENDS");
    would("set(0, 3, 0, 0, 4) set(1, 5, 0, 0, 2)", 0, 3, 1, -1);
    would("set(0, 3, 0, 0, 1) set(1, 0, 1, 0, 1)", 0, 0, 1, -1);
    would("set(0, 0, 1, 0, 1) set(1, 3, 0, 0, 1)", 0, 1, 1, -1);
    would("set(0, 3, 0, 0, 1) set(1, 4, 0, 0, 1)", 1, 0, 1, -1);
    would("set(0, 3, 0, 0, 4) set(1, 2, 0, 0, 3)", 1, 5, 1, -1);

    T.sentence("42. why it is over: 2 a PERIOD");
    would("field(1, 1, 1) set(0, 0, -1, 1, 1) set(1, 0, 1, 0, 1)", 0, 1, 2, 1);
    would("set(0, 0, 1, 0, 1) set(1, 0, 0, 1, 1)", 0, 3, 2, 1);
    would("field(-3, 1, -2) set(0, 4, 1, 0, 1) set(1, 12, 0, -1, 1)", 1, 60, 2, 54);

    T.sentence("42. why it is over: 3 REFUSED");
    would("set(0, 1, 0, 0, 100) set(1, 1, 0, 0, 100)", 0, 0, 3, -1);
    would("field(0, -3, 2) set(0, 1, -1, 0, 1) set(1, 1, 0, 2, 1)", 1, 59, 3, -1);
    would("set(0, 3, 0, 0, 4) set(1, 5, 0, 0, 2)", 1, T.given(Edges.SHORT).ask("would(0, 1, 1, 0)"), 1, -1);

    T.sentence("42. why it is over: 0 none by 60");
    would("field(-2, 0, -2) set(0, 0, -1, 0, 2) set(1, 0, -1, 1, 1)", 1, 60, 0, -1);

    T.sentence("42. on paper");
    T.given(Edges.CUBE + "2*step()").are("would(0, 0, 1, #)", 6, 3, -1).is("count(7)", 2).are("state(2, false, #)", 2, 1, 0, 1);
    T.is("count(11)", 5).are("period(#)", -1, -1).is("step()", 3).are("period(#)", 2, 1).is("status()", 0);
    T.given("set(0, 1, 0, 0, 100)").is("would(0, 0, 0, 1)", 3).is("count(17)", 0).is("status()", 0).is("count(5)", 0);
    // By its own WAY, not the TERM.
    T.given("way(1) set(0, 0, 1, 0, 1) set(1, 0, 0, 1, 1)").are("would(0, 1, 0, #)", 3, 2, 1).is("count(4)", 1);

    T.sentence("42. Integer.MIN_VALUE, if it can't begin");
    T.given("set(0, 0, 1, 0, 1) set(1, -1, 0, 0, 150) set(2, 100, 0, 0, 1) set(3, 99, 0, 0, 1)");
    for (int i : new int[] {1, 2, 5}) {
      for (int what = 0; what < 3; what++) T.is("would(0, " + i + ", 0, " + what + ")", UNTOLD).is("would(" + i + ", 0, 1, " + what + ")", UNTOLD);
    }
    T.are("would(3, 0, 0, #)", 0, 1, -1).is("count(14)", 0).is("count(16)", 0);

    T.sentence("42. Integer.MIN_VALUE for others");
    T.given("set(0, 0, 1, 0, 1) set(1, 0, 0, 1, 1)");
    for (String far : FAR_STORED) T.is("would(" + far + ", 0, 0, 0)", UNTOLD).is("would(0, " + far + ", 0, 0)", UNTOLD);
    for (String far : new String[] {"-1", "2", "MAX", "MIN"}) T.is("would(0, 1, " + far + ", 0)", UNTOLD);
    for (String far : FAR) T.is("would(0, 1, 0, " + far + ")", UNTOLD);
  }

  private static void count() {
    T.sentence("43. 0 both without one (a COURSE's WAY, STEPS)");
    T.given("way(1) " + Edges.CUBE + "2*step()").are("count(#)", 0, 0, 2, -108, 1, 1, 1, 2, 0).and("field(1, 1, 1)");
    T.are("count(#)", 1, 1, 1, -44, 1, 0, 0, 0, 0, 0);

    T.sentence("43. 8 1 if it ENDS (its next STEP can't be as f is 0)");
    T.given(Edges.SHORT).is("count(8)", 0).is("step()", 1).is("count(8)", 0).is("go(60)", 2).is("count(8)", 1);
    T.given(Edges.SLOW + "60*step()").is("count(8)", 0).given("set(0, 1, 0, 0, 100) begin(0, 0)").is("count(8)", 0);
    T.given("set(0, 1, 0, 0, 1) set(1, 1, 0, 0, 2) begin(0, 1)").is("count(8)", 1).given("set(0, 1, 0, 0, 1) set(1, 1, 0, 0, 2) way(1) begin(0, 1)").is("count(8)", 0);

    T.sentence("43. 9 how many STEPS are TURNED");
    T.given("way(1) set(0, 3, 0, 0, 1) set(1, 0, 1, 0, 1) begin(0, 1)").is("count(9)", 0).is("go(4)", 4).is("count(9)", 4);
    T.given(Edges.SLOW + "60*step()").is("count(9)", 0);

    T.sentence("43. 10 DIGITS of the WORD, 11 how many can be undone, 12 bytes of the TAPE");
    T.given("").are("count(1#)", 0, 0, 0).and("reads(" + "1 1;".repeat(39) + "1 1) 10*feed(0, 0, 0, 0, 0)").are("count(1#)", 40, 1, 200);
    T.and("9*set(0, 1, 0, 0, 1) undo() end(199)").are("count(1#)", 40, 7, 199);

    T.sentence("43. 13 .. 18 how many calls were REFUSED by -1 .. -6");
    String[] calls = {"way(2)", "set(6, 1, 0, 0, 1)", "step()", "solve()", "measures(0, 0.1)", "read()"};
    for (int code = 1; code <= 6; code++) {
      T.given("");
      for (int k = 1; k <= 3; k++) T.refused(calls[code - 1], -code).is("count(" + (12 + code) + ")", k);
      for (int k = 13; k <= 18; k++) T.is("count(" + k + ")", k == 12 + code ? 3 : 0);
    }
    // The others are never REFUSED.
    T.given("").and("feed(0, 0, 0, 0, 0) end(99) fault() value(9, 9) compare(9, 9) side(true, 0, 0) would(9, 9, 9, 9) digit(0, 0)");
    for (int k = 13; k <= 18; k++) T.is("count(" + k + ")", 0);

    T.sentence("43. Integer.MIN_VALUE for others");
    T.given(Edges.CUBE).is("count(-1)", UNTOLD).is("count(19)", UNTOLD).is("count(MAX)", UNTOLD).is("count(MIN)", UNTOLD);
    T.given("").is("count(-1)", UNTOLD).is("count(19)", UNTOLD).is("count(20)", UNTOLD);
  }

  private static void status() {
    T.sentence("44. 0 ahead of any");
    T.given("").is("status()", 0).is("feed(0, 0, 0, 0, 0)", 20).is("end(-1)", -1).is("status()", 0);

    T.sentence("44. what the latest call was REFUSED by; 0 if it was not");
    String[] refused = {"field(4, 0, 0)", "way(2)", "set(6, 0, 0, 0, 1)", "measure(0, -1)", "combine(3, 0, 5, 0)", "begin(5, 5)",
      "step()", "go(0)", "keep(0, 0)", "read()", "solve()", "undo()", "image(2)", "back(0)"};
    int[] codes = {-1, -1, -2, -5, -4, -4, -3, -1, -3, -6, -4, -4, -1, -2};
    for (int k = 0; k < refused.length; k++) T.given("way(1)").is("status()", 0).refused(refused[k], codes[k]);
    String[] passed = {"field(1, 1, 1)", "way(0)", "set(0, 1, 0, 0, 1)", "measures(0, 0.5)", "combine(0, 0, 0, 0)", "begin(0, 1)",
      "step()", "go(1)", "keep(2, 3)", "reads(1 1)", "solve()", "undo()", "image(0)", "back(1)"};
    for (String call : passed) {
      T.given("image(1) reads(0 1) " + Edges.CUBE).refused("way(7)", -1).and(call).is("status()", 0);
    }

    T.sentence("44. of these calls alone");
    String[] tellers = {"feed(0, 0, 0, 0, 0)", "end(99)", "end(0)", "fault()", "value(9, 9)", "value(0, 0)", "matrix(0, 0, 0)",
      "norm(0, 0, 0)", "compare(0, 9)", "compare(0, 0)", "state(0, true, 0)", "digit(1, 1)", "product(0, 0)", "determinant()",
      "bounds(true, 0)", "outer(true, 0)", "inverse(0, 0)", "side(true, 1, 1)", "simplest(true, 0)", "shared(0)", "period(0)",
      "round(0, 0)", "unit(0)", "equation(0)", "isRelation(0, 0, 0)", "relation(1, 0)", "word(0, 0)", "spelt(0, 0)", "asks(0)",
      "would(0, 1, 0, 0)", "count(0)", "status()"};
    for (String teller : tellers) {
      T.given(Edges.CUBE).refused("keep(6, 0)", -2);
      T.ask(teller);
      T.is("status()", -2).is("count(14)", 1);
      T.given(Edges.CUBE).ask(teller);
      T.is("status()", 0);
    }
  }
}
