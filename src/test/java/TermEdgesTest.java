import java.math.BigDecimal;
import java.math.BigInteger;
import java.math.MathContext;
import java.math.RoundingMode;

/** The boundary cases that the document's Terms (I, II, III) name, a test for each sentence. */
public final class TermEdgesTest {
  private static final Edges T = new Edges();
  private static final int UNTOLD = Edges.UNTOLD;
  private static final long NOTHING = Edges.NOTHING;
  private static final String[] FAR = {"-1", "6", "MAX", "MIN"};

  public static void main(String[] args) {
    fields();
    values();
    floors();
    matrices();
    stored();
    refusals();
    begun();
    turned();
    ended();
    refusedByNext();
    refusedByProduct();
    products();
    bounds();
    simplest();
    shared();
    periods();
    units();
    measured();
    relations();
    solved();
    texts();
    faults();
    proper();
    T.end("the Terms' boundary cases");
  }

  // ---- I ----

  private static void fields() {
    T.sentence("I. P, Q, R -3 .. 3");
    T.given("").is("field(3, 0, 1)", -135).is("count(0)", 3);
    T.given("").is("field(-3, 0, -1)", -135).is("count(0)", -3);
    T.given("").is("field(0, 3, 3)", -135).is("count(1)", 3);
    T.given("").is("field(0, -3, 1)", -135).is("count(1)", -3);
    T.given("").is("field(0, 0, 3)", -243).is("count(2)", 3);
    T.given("").is("field(0, 0, -3)", -243).is("count(2)", -3);
    for (String far : new String[] {"4", "-4", "MAX", "MIN", "65536"}) {
      T.given(Edges.CUBE + "step()").refused("field(" + far + ", 0, 1)", -1);
      T.refused("field(0, " + far + ", 1)", -1).refused("field(0, 0, " + far + ")", -1);
    }

    T.sentence("I. 0, 0, 2 at first");
    T.are("count(#)", 0, 0, 2, -108);

    T.sentence("I. it can be a FIELD, if no whole number is such a one");
    // The whole roots 0, 1, -1, 2, -2, 3, -3, each with a DISCRIMINANT below 0.
    String[] rooted = {"1, -1, 0", "0, 0, 1", "0, 0, -1", "1, 1, 2", "-1, 1, -2", "3, -1, 3", "-3, -1, -3"};
    for (String numbers : rooted) T.given(Edges.CUBE + "step()").refused("field(" + numbers + ")", -4);

    T.sentence("I. it can be a FIELD, if the DISCRIMINANT is below 0");
    T.is("field(0, 1, 1)", -23).is("field(0, -1, -1)", -31);
    T.refused("field(-1, 2, 1)", -4).refused("field(0, 3, 1)", -4);
    int can = 0;
    for (int k = 0; k < 343; k++) can += fieldIsTold(k / 49 - 3, k / 7 % 7 - 3, k % 7 - 3);
    T.due("how many of the 343 can be a FIELD", can, 194);
  }

  /** 1, if it can be a FIELD. */
  private static int fieldIsTold(int p, int q, int r) {
    boolean can = crossings(p, q, r) == 1;
    for (int x = -30; x <= 30; x++) can &= x * x * x - p * x * x - q * x - r != 0;
    String call = "field(" + p + ", " + q + ", " + r + ")";
    T.given("");
    if (!can) T.refused(call, -4);
    if (!can) return 0;
    // The DISCRIMINANT by what the powers of the three roots are together.
    int one = p;
    int two = p * one + 2 * q;
    int three = p * two + q * one + 3 * r;
    int four = p * three + q * two + r * one;
    T.is(call, 3 * (two * four - three * three) - one * (one * four - three * two) + two * (one * three - two * two));
    return 1;
  }

  /** How often x x x less P x x, Q x, R passes 0. */
  private static int crossings(int p, int q, int r) {
    int passed = 0;
    for (int k = -6 * 64; k < 6 * 64; k++) {
      double x = k / 64.0 + 0.001;
      double y = x + 1 / 64.0;
      if ((x * x * x - p * x * x - q * x - r > 0) != (y * y * y - p * y * y - q * y - r > 0)) passed++;
    }
    return passed;
  }

  private static void values() {
    T.sentence("I. d above 0, no number above 1 divides all four");
    T.given("set(0, 2, 4, 6, 8)").are("value(0, #)", 1, 2, 3, 4);
    T.given("set(0, 150, -150, 150, -150)").are("value(0, #)", -1, 1, -1, 1);
    T.given("set(0, 2, 4, 6, 3)").are("value(0, #)", 2, 4, 6, 3);
    T.given("set(0, 6, 10, 15, 150)").are("value(0, #)", 6, 10, 15, 150);
    T.given("set(0, 0, 75, 0, -150)").are("value(0, #)", 0, -1, 0, 2);
    T.given("set(0, 1, 0, 0, 1) set(1, -2, 0, 0, 1) combine(3, 0, 1, 2)").are("value(2, #)", -1, 0, 0, 2);
    T.given("set(0, 1, 1, 0, 2) combine(0, 0, 0, 2)").are("value(2, #)", 1, 1, 0, 1);

    T.sentence("I. 0: 0, 0, 0, 1");
    T.given("set(0, 0, 0, 0, 150)").are("value(0, #)", 0, 0, 0, 1);
    T.given("set(0, 0, 0, 0, -7)").are("value(0, #)", 0, 0, 0, 1);
    T.given("set(0, 1, 2, 3, 4) combine(1, 0, 0, 1)").are("value(1, #)", 0, 0, 0, 1);
    T.given("set(0, 1, 2, 3, 4) combine(2, 0, 5, 0)").are("value(0, #)", 0, 0, 0, 1);

    T.sentence("I. a VALUE can be, if a, b, c are -150 .. 150");
    int[] floors = {150, 188, 238, -150, -189, -239};
    for (int k = 0; k < 6; k++) {
      String sign = k < 3 ? "" : "-";
      T.given(set(0, k % 3, sign + "75", "1") + set(1, k % 3, sign + "76", "1"));
      T.is("combine(0, 0, 0, 2)", floors[k]).is("value(2, " + k % 3 + ")", k < 3 ? 150 : -150);
      T.refused("combine(0, 0, 1, 2)", -5);
    }

    T.sentence("I. a VALUE can be, if d is 1 .. 150");
    T.given("set(0, 1, 0, 0, 10) set(1, 1, 0, 0, 15) set(2, 1, 0, 0, 2) set(3, 1, 0, 0, 76)");
    T.is("combine(2, 0, 1, 4)", 0).is("value(4, 3)", 150).refused("combine(2, 2, 3, 4)", -5);
    // 1 by 2 ROOT and 4 ROOT ROOT is -6, 12, 1 by 150; 1 by 4 and 2 ROOT less ROOT ROOT is 22, 5, -8 by 151.
    T.given("field(0, 0, 3) set(0, 1, 0, 0, 1) set(1, 0, 2, 4, 1) set(2, 4, 2, -1, 1)");
    T.is("combine(3, 0, 1, 3)", 0).are("value(3, #)", -6, 12, 1, 150).refused("combine(3, 0, 2, 3)", -5);

    T.sentence("I. lowest terms ahead of what can be");
    T.given("set(0, 150, 0, 0, 149) set(1, 149, 0, 0, 150)").is("combine(2, 0, 1, 2)", 1).are("value(2, #)", 1, 0, 0, 1);
    T.given("set(0, 149, 0, 0, 150)").is("combine(0, 0, 0, 1)", 1).are("value(1, #)", 149, 0, 0, 75);
  }

  /** set() of a VALUE with one number, a, b or c. */
  private static String set(int i, int place, String number, String d) {
    String[] all = {"0", "0", "0"};
    all[place] = number;
    return "set(" + i + ", " + String.join(", ", all) + ", " + d + ") ";
  }

  private static void floors() {
    T.sentence("I. FLOOR: the greatest whole number not above it");
    T.is("set(0, -1, 0, 0, 150)", -1).is("set(0, 1, 0, 0, 150)", 0).is("set(0, -150, 0, 0, 150)", -1);
    T.is("set(0, 149, 0, 0, 150)", 0).is("set(0, -150, 0, 0, 149)", -2).is("set(0, -150, 0, 0, 1)", -150);
    // 100 ROOT less 80 ROOT ROOT is -0.99998 (nearer to a whole number none of like size is).
    T.is("set(0, 1, 100, -80, 1)", 0).is("set(0, -1, -100, 80, 1)", -1).is("set(0, 0, 100, -80, 1)", -1);
    T.is("set(0, 2, 100, -80, 1)", 1).is("set(0, 0, -100, 80, 1)", 0).is("set(0, 101, 100, -80, 1)", 100);
    T.is("set(0, 99, -100, 80, 1)", 99).is("set(0, 1, 100, -80, 150)", 0).is("set(0, -1, -100, 80, 150)", -1);
    for (int k = 0; k < 343; k++) {
      int p = k / 49 - 3;
      int q = k / 7 % 7 - 3;
      int r = k % 7 - 3;
      boolean can = crossings(p, q, r) == 1;
      for (int x = -3; x <= 3; x++) can &= x * x * x - p * x * x - q * x - r != 0;
      if (can) cornersAreTold(p, q, r);
    }
  }

  private static void cornersAreTold(int p, int q, int r) {
    BigDecimal root = root(p, q, r);
    for (int k = 0; k < 108; k++) {
      int[] number = {k % 3 * 150 - 150, k / 3 % 3 * 150 - 150, k / 9 % 3 * 150 - 150};
      int d = new int[] {1, 2, 7, 149}[k / 27];
      if (k % 54 == 0) T.given("field(" + p + ", " + q + ", " + r + ")");
      BigDecimal is = BigDecimal.valueOf(number[0]).add(root.multiply(BigDecimal.valueOf(number[1])))
          .add(root.multiply(root).multiply(BigDecimal.valueOf(number[2])));
      int floor = is.divide(BigDecimal.valueOf(d), new MathContext(60)).setScale(0, RoundingMode.FLOOR).intValueExact();
      T.is("set(0, " + number[0] + ", " + number[1] + ", " + number[2] + ", " + d + ")", floor);
      T.is("value(0, 5)", floor).is("value(0, 4)", is.signum());
    }
  }

  private static BigDecimal root(int p, int q, int r) {
    BigDecimal low = BigDecimal.valueOf(-5);
    BigDecimal high = BigDecimal.valueOf(5);
    for (int k = 0; k < 200; k++) {
      BigDecimal x = low.add(high).divide(BigDecimal.valueOf(2));
      BigDecimal y = x.subtract(BigDecimal.valueOf(p)).multiply(x).subtract(BigDecimal.valueOf(q)).multiply(x);
      if (y.compareTo(BigDecimal.valueOf(r)) > 0) high = x;
      else low = x;
    }
    return low.round(new MathContext(60));
  }

  private static void matrices() {
    T.sentence("I. a VALUE w: www less TRACE ww and SECOND w less NORM is 0");
    String[] fields = {"0, 0, 2", "3, 3, 3", "-3, 3, -3", "2, -1, -3", "-1, -2, 3"};
    String[] values = {"150, 150, 150, 1", "-150, 150, -149, 149", "1, 0, 0, 150", "0, -150, 149, 7", "-5, 3, 2, 6"};
    for (String field : fields) {
      for (String value : values) {
        T.given("field(" + field + ") set(0, " + value + ")");
        equationHolds();
      }
    }
  }

  /** By the MATRIX of w: NORM, TRACE, SECOND, brought to w's d, make its equation. */
  private static void equationHolds() {
    long[][] m = new long[3][3];
    for (int k = 0; k < 9; k++) m[k / 3][k % 3] = T.ask("matrix(0, " + k / 3 + ", " + k % 3 + ")");
    long d = T.ask("value(0, 3)");
    BigInteger[][] one = big(m);
    BigInteger[][] two = times(one, one);
    BigInteger[][] three = times(two, one);
    BigInteger[] by = new BigInteger[3];
    long lower = 1;
    for (int power : new int[] {1, 2, 0}) {
      lower = power == 0 ? d * d * d : power == 1 ? d : d * d;
      int which = power == 0 ? 0 : power;
      BigInteger upper = BigInteger.valueOf(T.ask("norm(0, " + which + ", 0)"));
      BigInteger under = BigInteger.valueOf(T.ask("norm(0, " + which + ", 1)"));
      by[which] = upper.multiply(BigInteger.valueOf(lower)).divide(under);
      T.due("lowest terms", upper.gcd(under).equals(BigInteger.ONE) && under.signum() > 0);
    }
    for (int k = 0; k < 9; k++) {
      int i = k / 3;
      int j = k % 3;
      BigInteger sum = three[i][j].subtract(by[1].multiply(two[i][j])).add(by[2].multiply(one[i][j]));
      if (i == j) sum = sum.subtract(by[0]);
      T.due("its equation holds", sum.signum() == 0);
    }
  }

  private static BigInteger[][] big(long[][] m) {
    BigInteger[][] made = new BigInteger[3][3];
    for (int k = 0; k < 9; k++) made[k / 3][k % 3] = BigInteger.valueOf(m[k / 3][k % 3]);
    return made;
  }

  private static BigInteger[][] times(BigInteger[][] x, BigInteger[][] y) {
    BigInteger[][] made = new BigInteger[3][3];
    for (int k = 0; k < 9; k++) {
      made[k / 3][k % 3] = BigInteger.ZERO;
      for (int n = 0; n < 3; n++) made[k / 3][k % 3] = made[k / 3][k % 3].add(x[k / 3][n].multiply(y[n][k % 3]));
    }
    return made;
  }

  private static void stored() {
    T.sentence("I. STORE 0 .. 5: VALUES, 0 at first");
    for (int i = 0; i < 6; i++) T.are("value(" + i + ", #)", 0, 0, 0, 1, 0, 0);
    T.given("").is("set(0, 1, 0, 0, 1)", 1).is("set(5, 5, 0, 0, 1)", 5).is("value(0, 0)", 1).is("value(5, 0)", 5);
    for (String far : FAR) T.refused("set(" + far + ", 1, 0, 0, 1)", -2).is("value(" + far + ", 0)", UNTOLD);

    T.sentence("I. a TERM: WAY 0, 1 (0 at first)");
    T.is("count(4)", 0).is("way(1)", 0).is("count(4)", 1).is("way(0)", 1).is("count(4)", 0);
    T.refused("way(2)", -1).refused("way(-1)", -1).refused("way(MIN)", -1);

    T.sentence("I. the TAPE: 200 bytes at most");
    T.given("writes(12 34t) end(0) 9*feed(0x31203120, 0, 0, 0, 0)").is("count(12)", 180);
    T.is("feed(0, 0, 0, 0, 0)", 200).is("feed(0, 0, 0, 0, 0)", -1).is("count(12)", 200);
  }

  private static void refusals() {
    T.sentence("I. REFUSED by the first of these in that order");
    T.given("").refused("field(4, 0, 0)", -1).refused("set(6, 151, 0, 0, 1)", -1).refused("set(-1, 0, 0, 0, 0)", -1);
    T.given("").refused("combine(4, 6, 0, 0)", -1).refused("combine(3, 6, 5, 0)", -2).refused("combine(3, 0, 5, 6)", -2);
    T.given("").refused("combine(3, 0, 5, 1)", -4).refused("measure(6, 0x7FF8000000000000)", -2);
    T.given("").refused("begin(6, 5)", -2).refused("begin(5, 6)", -2).refused("begin(5, 5)", -4);
    T.given("").refused("go(0)", -1).refused("go(61)", -1).refused("go(1)", -3);
    T.given("").refused("keep(6, 0)", -2).refused("keep(0, 6)", -2).refused("keep(0, 0)", -3);
    T.given("").refused("back(2)", -1).refused("back(1)", -2).refused("image(2)", -1);
    T.given("set(0, 100, 0, 0, 1)").refused("combine(0, 0, 0, 6)", -2).refused("combine(0, 0, 0, 0)", -5);
    T.given(Edges.SHORT + "go(60)").refused("go(0)", -1).refused("go(60)", -3);
    // The next STEP can't be: -1 stands ahead of -5, too.
    T.given("set(0, 1, 0, 0, 100) begin(0, 0)").refused("go(61)", -1).refused("go(60)", -5).refused("step()", -5);
  }

  // ---- II ----

  private static void begun() {
    T.sentence("II. a COURSE begins with two VALUES, both above 0");
    // The least above 0: 1 by 150, and 0.00000014; what is as much below it, and 0.
    T.given("set(0, 1, 0, 0, 150) set(1, 1, 100, -80, 150) set(2, -1, -100, 80, 150) set(3, -1, 0, 0, 150)");
    T.is("begin(0, 1)", 0).is("begin(1, 0)", 0).is("begin(1, 1)", 0);
    for (String low : new String[] {"2", "3", "4"}) {
      T.refused("begin(" + low + ", 0)", -4).refused("begin(0, " + low + ")", -4).refused("begin(2, " + low + ")", -4);
    }

    T.sentence("II. FLOORS 99 at most");
    // 99.99998 and 100.00002; 149 by 1.5 is 99.3, 150 by 1.5 is 100.
    T.given("set(0, 99, -100, 80, 1) set(1, 101, 100, -80, 1) set(2, 99, 0, 0, 1) set(3, 100, 0, 0, 1)");
    T.is("begin(0, 2)", 99).is("begin(2, 0)", 99).is("begin(0, 0)", 99).is("state(0, true, 4)", 99);
    for (String high : new String[] {"1", "3"}) {
      T.refused("begin(" + high + ", 0)", -4).refused("begin(2, " + high + ")", -4).refused("begin(1, " + high + ")", -4);
    }

    T.sentence("II. STATE 0 is u, v, these");
    T.given("set(3, 3, 0, 0, 4) set(4, 1, 2, 3, 5) begin(4, 3)").are("state(0, false, #)", 1, 2, 3, 5, 1);
    T.are("state(0, true, #)", 3, 0, 0, 4, 0).is("count(7)", 0);
    // What STORE has later is nothing to it.
    T.given("set(3, 3, 0, 0, 4) set(4, 1, 2, 3, 5) begin(4, 3) set(4, 7, 0, 0, 1)").is("state(0, false, 0)", 1);

    T.sentence("II. it has its WAY from then on");
    T.given(Edges.CUBE + "way(1) step()").is("digit(1, 2)", 0).is("count(6)", 0).is("count(4)", 1);
    T.given("way(1) " + Edges.CUBE + "way(0) step()").is("digit(1, 2)", 1).is("count(6)", 1).is("count(4)", 0);
  }

  private static void turned() {
    // 40 ROOT ROOT less 50 ROOT is 0.49999.
    String near = "set(0, 0, -50, 40, 1) set(1, 1, 0, 0, 2) ";
    T.sentence("II. by WAY 1, if f is below g, they are exchanged: the STEP is TURNED");
    T.given("way(1) " + near + "begin(0, 1) step()").is("digit(1, 2)", 1).are("state(1, false, #)", 0, -100, 80, 1, 0);
    T.are("state(1, true, #)", 2, 0, 0, 1, 2);
    T.given("way(1) " + near + "begin(1, 0) step()").is("digit(1, 2)", 0).are("state(1, false, #)", 0, -100, 80, 1, 0);
    T.given("way(1) " + near + "begin(1, 1) step()").is("digit(1, 2)", 0).are("state(1, false, #)", 1, 0, 0, 1, 1);
    T.given("way(1) " + Edges.CUBE + "step()").are("product(0, #)", 0, 0, 1).are("product(1, #)", 0, 1, 1);
    T.are("product(2, #)", 1, 0, 1);

    T.sentence("II. by WAY 0 none is TURNED");
    T.given("set(0, 1, 0, 0, 3) set(1, 1, 0, 0, 2) begin(0, 1) step()").is("digit(1, 2)", 0);
    T.are("state(1, false, #)", 3, 0, 0, 2, 1).are("state(1, true, #)", 3, 0, 0, 1, 3);

    T.sentence("II. by WAY 1 u may be 0");
    // u is whole, v is ROOT: TURNED each time, u is 0 from then on.
    T.given("way(1) set(0, 3, 0, 0, 1) set(1, 0, 1, 0, 1) begin(0, 1)").is("count(8)", 0).is("step()", 1);
    T.are("state(1, false, #)", 0, 0, 0, 1, 0).are("state(1, true, #)", 1, 1, 1, 1, 3).is("count(8)", 0);
    T.is("step()", 2).is("digit(2, 2)", 1).are("state(2, false, #)", 0, 0, 0, 1, 0).is("count(8)", 0);
  }

  private static void ended() {
    T.sentence("II. is f 0, the COURSE ENDS: there is no STEP");
    T.given("set(0, 3, 0, 0, 1) set(1, 0, 1, 0, 1) begin(0, 1)").is("count(8)", 1).refused("step()", -3).refused("go(60)", -3);
    T.given("set(0, 0, 1, 0, 1) set(1, 3, 0, 0, 1) begin(0, 1)").is("count(8)", 0).is("step()", 1);
    T.are("state(1, false, #)", 0, 0, 0, 1, 0).is("count(8)", 1).refused("step()", -3);
    T.given("way(1) set(0, 0, 1, 0, 1) set(1, 3, 0, 0, 1) begin(0, 1)").is("count(8)", 0).is("step()", 1);
    T.is("digit(1, 2)", 0).is("count(8)", 0);
    T.given("way(1) set(0, 3, 0, 0, 1) set(1, 4, 0, 0, 1) begin(0, 1)").is("count(8)", 1).refused("step()", -3);
    // f is 0.00002: it does not END, but no STEP can be.
    T.given("set(0, 2, 100, -80, 1) begin(0, 0)").is("count(8)", 0).refused("step()", -5);
    T.given("way(1) set(0, 3, 0, 0, 1) set(1, 2, 100, -80, 1) begin(0, 1)").is("count(8)", 0).refused("step()", -5);
    T.given(Edges.SHORT + "go(2)").is("count(8)", 0).is("step()", 3).is("count(8)", 1).refused("step()", -3);
    T.are("state(3, false, #)", 1, 0, 0, 1, 1).are("state(3, true, #)", 2, 0, 0, 1, 2);
  }

  /** A STEP with f and g: 1 by f and g by f have a number that is just 150, 151, -150 or -151. */
  private static void refusedByNext() {
    T.sentence("II. -5, if u can't be a VALUE");
    String[] stands = {"-1, -1, -3) 1, -1, -1, 1 150, -147, -148, 15 0 150", "-1, 2, 3) -2, 0, 1, 1 111, 63, -87, 1 0 -150",
      "-3, -3, 1) 0, 1, 0, 1 0, 0, 150, 11 1 150", "0, -3, -1) 0, -1, 0, 1 0, 1, 150, 16 1 -150",
      "-1, -2, -1) 0, 0, 1, 1 150, 150, -150, 17 2 150", "-2, -3, -1) 1, 1, 1, 1 -75, -150, 75, 4 2 -150",
      "0, 0, 2) 6, 0, 0, 7 1, 0, 0, 25 3 150"};
    String[] fails = {"-1, -1, -3) 1, -1, -1, 1 148, -150, -149, 16", "-1, 2, 3) -2, 0, 1, 1 110, 64, -87, 1",
      "-3, -3, 1) 0, 1, 0, 1 1, -3, 148, 11", "-1, -3, -1) 0, -1, 0, 1 -1, -2, 150, 20",
      "-1, -2, -1) 0, 0, 1, 1 150, 149, -150, 17", "-2, -3, -1) 1, 1, 1, 1 -75, -150, 76, 4", "0, 0, 2) 8, 0, 0, 9 1, 0, 0, 19"};
    for (String one : stands) nextStands(one, "false");
    for (String one : fails) nextFails(one);

    T.sentence("II. -5, if v can't be a VALUE");
    // g is half of f: u is 1 by 2.
    stands = new String[] {"-2, 3, -1) 1, -1, 1, 15 1, -1, 1, 30 0 150", "-2, 0, -3) 2, -1, 2, 25 2, -1, 2, 50 0 -150",
      "-3, 1, -1) 1, -3, 0, 20 1, -3, 0, 40 1 150", "-3, 2, -1) -3, 6, 2, 15 -3, 6, 2, 30 1 -150",
      "-2, 0, -1) -10, -7, -1, 12 -10, -7, -1, 24 2 150", "-1, -2, -1) 37, 9, 21, 50 37, 9, 21, 100 2 -150",
      "0, 0, 2) -2, 3, 2, 7 -2, 3, 2, 14 3 150"};
    fails = new String[] {"0, -3, -1) 0, 1, 4, 5 0, 1, 4, 10", "-2, 2, -1) -3, -3, 4, 43 -3, -3, 4, 86",
      "-3, 0, -2) -1, -9, -1, 41 -1, -9, -1, 82", "-2, 2, -1) -3, 2, 5, 46 -3, 2, 5, 92",
      "-2, 1, -1) -19, -31, -9, 57 -19, -31, -9, 114", "-2, -1, 1) 34, 43, 20, 67 34, 43, 20, 134",
      "-1, -1, 2) 1, 0, 3, 4 1, 0, 3, 8"};
    for (String one : stands) nextStands(one, "true");
    for (String one : fails) nextFails(one);

    T.sentence("II. -5, if one has a FLOOR above 99");
    T.given("set(0, 1, 0, 0, 99) begin(0, 0)").is("step()", 1).is("state(1, true, 4)", 99);
    T.given("set(0, 1, 0, 0, 100) begin(0, 0)").refused("step()", -5);
    // v would be 5, 4, 3 times 27 by 4: 99.9; 1, 1, 1 times 26: 100.03.
    T.given("set(0, 4, -8, 4, 27) set(1, 1, 0, 0, 2) begin(0, 0)").is("step()", 1).is("state(1, true, 4)", 99);
    // u would be 99 just so, v 99.9.
    T.given("set(0, 4, -8, 4, 27) set(1, 44, -88, 44, 3) begin(0, 1)").is("step()", 1).are("state(1, false, #)", 99, 0, 0, 1, 99);
    T.given("set(0, -1, 1, 0, 26) set(1, 1, 0, 0, 2) begin(0, 0)").is("state(0, true, 1)", 1).refused("step()", -5);
  }

  /** "FIELD) f g what number": f and g as STATE 0 of WAY 0, where the number of the next STATE is that one. */
  private static void nextStands(String told, String other) {
    T.given(opening(told)).is("step()", 1);
    String[] last = told.substring(told.indexOf(')') + 1).trim().split(" ");
    T.is("state(1, " + other + ", " + last[last.length - 2] + ")", Long.parseLong(last[last.length - 1]));
  }

  private static void nextFails(String told) {
    T.given(opening(told)).is("count(8)", 0).refused("step()", -5).refused("go(60)", -5);
    T.is("would(0, 1, 0, 0)", 0).is("would(0, 1, 0, 1)", 3);
  }

  private static String opening(String told) {
    String[] parts = told.substring(told.indexOf(')') + 1).trim().split("(?<!,) ");
    return "field(" + told.substring(0, told.indexOf(')')) + ") set(0, " + parts[0] + ") set(1, " + parts[1] + ") begin(0, 1) ";
  }

  private static void refusedByProduct() {
    T.sentence("II. -5, if a number of PRODUCT would be beyond 9223372036854775807");
    // One that is nearly that, and the next STEP, the STATE of which was met before.
    T.given("field(1, -3, 1) set(0, 2, 1, 0, 1) set(1, 68, 7, -4, 3) begin(0, 1) 49*step()").is("step()", 50);
    T.due("the greatest number", greatest(), 9223208407843689949L);
    T.due("a PERIOD was found", T.ask("period(1)") > 0);
    T.refused("step()", -5).refused("go(1)", -5);
    // It would be 9223424685400728743.
    T.given("way(1) field(2, -1, -3) set(0, 28, 0, 1, 2) set(1, 1, 1, 0, 1) begin(0, 1) 57*step()").is("step()", 58);
    T.due("a PERIOD was found", T.ask("period(1)") > 0);
    T.due("what it would be", wouldBe().equals(new BigInteger("9223424685400728743")));
    T.refused("step()", -5).refused("go(1)", -5);
    // It would be 25024175744225282480, which is 6577431670515730864 by wrap-around.
    T.given("field(1, 0, -1) set(0, 0, 0, 1, 1) set(1, 0, -1, 0, 1) begin(0, 1) 36*step()");
    T.due("a PERIOD was found", T.ask("period(1)") > 0);
    T.due("what it would be, wrapped", wouldBe().longValue() > 0 && wouldBe().bitLength() > 64);
    T.refused("step()", -5).refused("go(1)", -5);

    T.sentence("II. -5, if there are 60 STEPS");
    T.given(Edges.SLOW + "58*step()").is("step()", 59).is("step()", 60).refused("step()", -5).refused("go(1)", -5);
    T.is("count(7)", 60).is("count(8)", 0);
  }

  private static long greatest() {
    long most = 0;
    for (int k = 0; k < 9; k++) most = Math.max(most, T.ask("product(" + k / 3 + ", " + k % 3 + ")"));
    return most;
  }

  /** The greatest number of PRODUCT behind one more STEP. */
  private static BigInteger wouldBe() {
    long steps = T.ask("count(7)");
    BigInteger a = BigInteger.valueOf(T.ask("state(" + steps + ", false, 4)"));
    BigInteger b = BigInteger.valueOf(T.ask("state(" + steps + ", true, 4)"));
    BigInteger most = BigInteger.ZERO;
    for (int i = 0; i < 3; i++) {
      most = most.max(BigInteger.valueOf(T.ask("product(" + i + ", 0)"))
          .add(a.multiply(BigInteger.valueOf(T.ask("product(" + i + ", 1)"))))
          .add(b.multiply(BigInteger.valueOf(T.ask("product(" + i + ", 2)")))));
    }
    return most;
  }

  private static void products() {
    T.sentence("II. PRODUCT without any: 1 on the diagonal, else 0");
    T.given(Edges.CUBE);
    for (int i = 0; i < 3; i++) T.are("product(" + i + ", #)", i == 0 ? 1 : 0, i == 1 ? 1 : 0, i == 2 ? 1 : 0);
    T.is("determinant()", 1);

    T.sentence("II. PRODUCT: the first one first");
    // 0 0 1; 1 0 0; 0 1 2 times 0 0 1; 1 0 2; 0 1 3.
    T.given(Edges.SHORT + "2*step()").are("product(0, #)", 0, 1, 1).are("product(1, #)", 0, 0, 1).are("product(2, #)", 1, 2, 2);

    T.sentence("II. INVERSE: together with PRODUCT it is 1 on the diagonal, else 0");
    for (String given : new String[] {Edges.CUBE, "way(1) " + Edges.CUBE + "step() ", "way(1) " + Edges.CUBE + "6*step()"}) {
      T.given(given);
      for (int k = 0; k < 9; k++) {
        long sum = 0;
        for (int n = 0; n < 3; n++) {
          sum += T.ask("product(" + k / 3 + ", " + n + ")") * T.ask("inverse(" + n + ", " + k % 3 + ")");
        }
        T.due("PRODUCT and INVERSE, cell " + k, sum, k % 4 == 0 ? 1 : 0);
      }
    }
    T.due("a determinant of -1 was met", T.given("way(1) " + Edges.CUBE + "step()").ask("determinant()"), -1);
  }

  private static void bounds() {
    T.sentence("II. BOUNDS, if all three lower numbers are above 0");
    String[] tellers = {"bounds(false, #)", "bounds(true, #)", "simplest(false, #)", "simplest(true, #)", "shared(#)"};
    for (int steps = 0; steps < 3; steps++) {
      T.given(Edges.CUBE + steps + "*step()");
      for (String teller : tellers) T.are(teller, NOTHING, NOTHING);
      T.is("outer(false, 0)", -1).is("outer(true, 1)", -1);
    }
    T.given(Edges.CUBE + "3*step()").are("product(0, #)", 1, 3, 12).are("bounds(false, #)", 1, 1, 4, 3).are("bounds(true, #)", 1, 1, 5, 3);
    // By WAY 1 the lower number in the middle stays 0 while all STEPS are TURNED.
    T.given("way(1) set(0, 3, 0, 0, 1) set(1, 0, 1, 0, 1) begin(0, 1) 4*step()").is("count(9)", 4).is("product(0, 1)", 0);
    T.due("the others are above 0", T.ask("product(0, 0)") > 0 && T.ask("product(0, 2)") > 0);
    for (String teller : tellers) T.are(teller, NOTHING, NOTHING);

    T.sentence("II. BOUNDS of STATE 0: they enclose u and v, the least of the three FRACTIONS and the greatest");
    for (int steps = 3; steps < 7; steps++) {
      T.given(Edges.CUBE + steps + "*step()");
      for (String other : new String[] {"false", "true"}) {
        for (int k = 0; k < 4; k += 2) {
          String end = T.ask("bounds(" + other + ", " + k + ")") + ", " + T.ask("bounds(" + other + ", " + (k + 1) + ")");
          T.is("side(" + other + ", " + end + ")", k == 0 ? 1 : -1);
        }
      }
    }
  }

  private static void simplest() {
    T.sentence("II. SIMPLEST: from the least to the greatest of BOUNDS (these, too)");
    T.given(Edges.CUBE + "3*step()").are("simplest(false, #)", 1, 1).are("bounds(false, #)", 1, 1, 4, 3);
    T.given(Edges.CUBE + "4*step()").are("simplest(false, #)", 4, 3).are("bounds(false, #)", 5, 4, 4, 3);
    T.are("simplest(true, #)", 5, 3).are("bounds(true, #)", 19, 12, 5, 3);

    T.sentence("II. SIMPLEST: of like ones that with the least upper one");
    // 1 and 2 are both ends of BOUNDS.
    T.given(Edges.SLOW + "3*step()").are("bounds(true, #)", 1, 1, 2, 1).are("simplest(true, #)", 1, 1);
    T.given("set(0, -1, 1, 0, 1) set(1, 0, 0, 1, 1) begin(0, 1) 3*step()").are("bounds(false, #)", 0, 1, 1, 3);
    T.are("simplest(false, #)", 0, 1);
  }

  private static void shared() {
    T.sentence("II. SHARED: the ends, too");
    T.given(Edges.CUBE + "4*step()").are("shared(#)", 3, 4, 5).are("bounds(false, #)", 5, 4, 4, 3).are("bounds(true, #)", 19, 12, 5, 3);
    T.given(Edges.CUBE + "3*step()").are("shared(#)", 1, 1, 1).are("bounds(false, #)", 1, 1, 4, 3);

    T.sentence("II. SHARED: the least such ones");
    T.given(Edges.SLOW + "3*step()").are("bounds(false, #)", 1, 1, 2, 1).are("shared(#)", 1, 1, 1);

    T.sentence("II. SHARED: the least q, 1 .. 9,999");
    T.given("field(-2, 0, -1) set(0, 0, -1, 1, 2) set(1, 1, 1, 1, 2) begin(0, 1) 17*step()").is("shared(0)", 9999);
    T.due("for u", within("false", 9999, T.ask("shared(1)")) && !within("false", 9999, T.ask("shared(1)") - 1));
    T.due("for v", within("true", 9999, T.ask("shared(2)")) && !within("true", 9999, T.ask("shared(2)") - 1));
    // The least one is 10000, that of a column.
    T.given("set(0, 3, 0, 1, 2) set(1, 2, 5, -4, 4) begin(0, 1) 13*step()").are("shared(#)", NOTHING, NOTHING, NOTHING);
    long j = T.ask("product(0, 0)") == 10000 ? 0 : 1;
    T.is("product(0, " + j + ")", 10000);
    T.due("by 10000", within("false", 10000, T.ask("product(1, " + j + ")")) && within("true", 10000, T.ask("product(2, " + j + ")")));
  }

  private static boolean within(String other, long q, long p) {
    return p * T.ask("bounds(" + other + ", 1)") >= q * T.ask("bounds(" + other + ", 0)")
        && p * T.ask("bounds(" + other + ", 3)") <= q * T.ask("bounds(" + other + ", 2)");
  }

  private static void periods() {
    T.sentence("II. a PERIOD: the STATE is the same as an earlier one");
    T.given(Edges.SLOW).are("period(#)", -1, -1).is("step()", 1).are("period(#)", 0, 1);
    T.given(Edges.CUBE + "2*step()").are("period(#)", -1, -1).is("step()", 3).are("period(#)", 2, 1);
    // v is the same in STATES 0 and 1, u in 0 and 2, not both.
    T.given("set(0, 0, 0, 1, 2) set(1, 0, 1, 0, 1) begin(0, 1) 2*step()").are("period(#)", -1, -1);
    for (int what = 0; what < 4; what++) {
      T.due("v of 0 and 1", T.ask("state(0, true, " + what + ")"), T.ask("state(1, true, " + what + ")"));
      T.due("u of 0 and 2", T.ask("state(0, false, " + what + ")"), T.ask("state(2, false, " + what + ")"));
    }

    T.sentence("II. the first such STEP, the first such STATE; that stays");
    T.given(Edges.CUBE + "30*step()").are("period(#)", 2, 1);
    T.given(Edges.SLOW + "60*step()").are("period(#)", 0, 1);

    T.sentence("II. ROUND: SQUARES of these STEPS alone");
    T.given(Edges.CUBE + "9*step()").are("round(0, #)", 0, 0, 1).are("round(1, #)", 1, 0, 3).are("round(2, #)", 0, 1, 3);
    T.given(Edges.SLOW + "9*step()").are("round(0, #)", 0, 0, 1).are("round(1, #)", 1, 0, 1).are("round(2, #)", 0, 1, 1);
  }

  private static void units() {
    T.sentence("II. UNIT: its row 0 times 1, u, v of STATE START, together");
    T.given(Edges.CUBE + "3*step()").are("unit(#)", 1, 1, 1, 1);
    T.given(Edges.SLOW + "1*step()").are("unit(#)", 0, 1, 0, 1);

    T.sentence("II. EQUATION: x x x less T x x and U x less D");
    // 1 and ROOT and ROOT ROOT: xxx - 3xx - 3x - 1; ROOT: xxx - xx - x - 1.
    T.given(Edges.CUBE + "3*step()").are("equation(#)", 3, -3, 1);
    T.given(Edges.SLOW + "1*step()").are("equation(#)", 1, -1, 1);
  }

  // ---- III ----

  private static void measured() {
    T.sentence("III. MEASURED: the VALUE that is just that number (b, c 0)");
    T.given("set(0, 1, 2, 3, 4)").is("measures(0, 2.75)", 2).are("value(0, #)", 11, 0, 0, 4);
    T.given("set(0, 1, 2, 3, 4)").is("measures(0, -0.0)", 0).are("value(0, #)", 0, 0, 0, 1);
    T.given("set(0, 1, 2, 3, 4)").refused("measures(0, 0.1)", -5).refused("measures(0, 1e-300)", -5);
  }

  private static void relations() {
    // u is 3 by 4 and ROOT by 4, v is 1 by 3 and 2 ROOT by 3: 8 u less 3 v is 5.
    String both = "set(0, 3, 1, 0, 4) set(1, 1, 2, 0, 3) begin(0, 1) ";
    T.sentence("III. RELATION: k and l times u and m times v of STATE 0 are 0");
    T.given(both + "step()").is("isRelation(-5, 8, -3)", 1).is("isRelation(5, -8, 3)", 1).is("isRelation(0, 0, 0)", 1);
    T.is("isRelation(-5, 8, -2)", 0).is("isRelation(-5, 7, -3)", 0).is("isRelation(-4, 8, -3)", 0);
    T.is("isRelation(-5, -8, -3)", 0).is("isRelation(-8, 5, -3)", 0);

    // What is not 0 by a single one of 1, ROOT, ROOT ROOT.
    T.given(Edges.CUBE).is("isRelation(1, 0, 0)", 0).is("isRelation(0, 1, 0)", 0).is("isRelation(0, 0, 1)", 0);
    T.given("set(0, 1, 2, 3, 1) set(1, 1, 2, 4, 1) begin(0, 1)").is("isRelation(0, 1, -1)", 0);
    T.given("set(0, 1, 2, 3, 1) set(1, 1, 3, 3, 1) begin(0, 1)").is("isRelation(0, 1, -1)", 0);
    T.given("set(0, 1, 2, 3, 1) set(1, 2, 2, 3, 1) begin(0, 1)").is("isRelation(0, 1, -1)", 0).is("isRelation(1, 1, -1)", 1);

    T.sentence("III. LEAST RELATION of n: of all with -n .. n");
    T.given("set(0, 0, 0, 1, 1) set(1, 0, 0, 2, 1) begin(0, 1)").are("relation(2, #)", 0, -2, 1).is("relation(1, 0)", UNTOLD);
    T.given("set(0, 2, 0, 1, 1) set(1, 0, 3, 6, 7) begin(0, 1)").are("relation(9, #)", UNTOLD, UNTOLD, UNTOLD);
    T.given("set(0, 2, 0, 1, 5) set(1, 1, 0, 3, 7) begin(0, 1)").is("isRelation(-5, 15, -7)", 1).is("relation(9, 0)", UNTOLD);
    T.given("set(0, 1, 0, 1, 3) set(1, 1, 0, 2, 4) begin(0, 1)").are("relation(6, #)", -1, 6, -4).is("relation(5, 0)", UNTOLD);
    T.given(both).are("relation(8, #)", -5, 8, -3).are("relation(7, #)", UNTOLD, UNTOLD, UNTOLD);
    T.given("set(0, 1, 0, 0, 9) set(1, 0, 1, 0, 1) begin(0, 1)").are("relation(9, #)", -1, 9, 0).is("relation(8, 0)", UNTOLD);
    T.given("set(0, 1, 0, 0, 10) set(1, 0, 1, 0, 1) begin(0, 1)").is("relation(9, 0)", UNTOLD).is("isRelation(-1, 10, 0)", 1);
    T.given("set(0, 9, 0, 0, 1) set(1, 0, 1, 0, 1) begin(0, 1)").are("relation(9, #)", -9, 1, 0).is("relation(8, 0)", UNTOLD);
    T.given("set(0, 0, 9, 0, 1) set(1, 0, 1, 0, 1) begin(0, 1)").are("relation(9, #)", 0, -1, 9).is("relation(8, 0)", UNTOLD);

    T.sentence("III. LEAST RELATION: not all 0");
    T.given(Edges.CUBE).is("isRelation(0, 0, 0)", 1).are("relation(9, #)", UNTOLD, UNTOLD, UNTOLD);

    T.sentence("III. LEAST RELATION: that whose sum without signs is least");
    // -1, -2, 1 (4) and -2, 2, .. have greater sums than 3 u = 3 by 4 ..: 1 by 2 and 3 by 2 are -1, -1, 1 together.
    T.given("set(0, 1, 0, 0, 2) set(1, 3, 0, 0, 2) begin(0, 1)").are("relation(9, #)", -1, -1, 1).are("relation(1, #)", -1, -1, 1);
    // 5 and 3 by 2: -3, 0, 2 and -2, 1, -2 are both of 5, -5, 1, 0 is of 6.
    T.given("set(0, 5, 0, 0, 1) set(1, 3, 0, 0, 2) begin(0, 1)").are("relation(2, #)", -2, 1, -2);

    T.sentence("III. LEAST RELATION: the first by k, then l, then m, rising");
    T.are("relation(9, #)", UNTOLD, UNTOLD).given("set(0, 5, 0, 0, 1) set(1, 3, 0, 0, 2) begin(0, 1)");
    T.are("relation(3, #)", -3, 0, 2).are("relation(9, #)", -3, 0, 2);
    T.given("set(0, 1, 0, 0, 1) begin(0, 0)").are("relation(9, #)", -1, 0, 1).are("relation(1, #)", -1, 0, 1);
    T.given("set(0, 0, 1, 0, 1) begin(0, 0)").are("relation(9, #)", 0, -1, 1);
  }

  private static void solved() {
    T.sentence("III. SOLVED: a WORD for ever");
    for (String word : new String[] {"1 1", "0 1", "2 3", "0 1;1 2", "1 2;0 1"}) {
      T.given("reads(" + word + ") solve() begin(0, 1)").is("go(60)", word.length() / 4 + 1).is("period(0)", 0);
      T.is("asks(1)", word.length() / 4 + 1);
    }

    T.sentence("III. SOLVED: the FIELD of T, -U, D");
    // M of 2 3 is 0 0 1; 1 0 2; 0 1 3: T 3, U -2, D 1; of 1 0;2 0 T is 3, U 2; of 3 2 U is -3; of 0 1 U is 0.
    T.given("reads(2 3)").is("solve()", -175).are("count(#)", 3, 2, 1);
    T.given("reads(1 0;2 0)").is("solve()", -23).are("count(#)", 3, -2, 1);
    T.given("reads(3 2)").is("solve()", -23).are("count(#)", 2, 3, 1);
    T.given("reads(0 1)").is("solve()", -31).are("count(#)", 1, 0, 1);
  }

  /** What read() answers, and FAULT (-1: none). */
  private static void text(String text, int fault, int digits) {
    T.given("");
    if (fault < 0) T.is("reads(" + text + ")", digits).is("fault()", -1).is("count(10)", digits);
    else T.refused("reads(" + text + ")", -6).is("fault()", fault);
  }

  private static String many(int times, String part) {
    return part.repeat(times);
  }

  private static void texts() {
    T.sentence("III. TEXT: DIGITS, 40 at most");
    text("1 1", -1, 1);
    text(many(38, "1 1;") + "1 1", -1, 39);
    text(many(39, "1 1;") + "1 1", -1, 40);
    text(many(40, "1 1;") + "1 1", 160, 0);
    text(many(39, "1 1 ;") + "1 1 t", -1, 40);
    T.is("count(12)", 0).is("word(39, 2)", 1).is("word(40, 2)", -1);

    T.sentence("III. DIGITS: WHOLE WHOLE (a, b 0 .. 99)");
    text("0 0", -1, 1);
    text("99 99", -1, 1);
    T.are("word(0, #)", 99, 99, 0);
    text("100 0", 0, 0);
    text("0 100", 2, 0);
    text("0099 000000", -1, 1);
    text(many(190, "0") + "99 1", -1, 1);
    T.are("word(0, #)", 99, 1, 0);
    text(many(190, "0") + "100 1", 0, 0);
    text("4294967297 1", 0, 0);
    text("1 18446744073709551617", 2, 0);
    text(many(200, "9"), 0, 0);
    text("1", 1, 0);
    text("1 1 1", 4, 0);

    T.sentence("III. DIGITS: [\"t\"] (t: TURNED)");
    text("1 1t", -1, 1);
    T.are("word(0, #)", 1, 1, 1);
    text("1 1 t ", -1, 1);
    text("1t 1", 1, 0);
    text("t1 1", 0, 0);
    text("1 1tt", 4, 0);
    text("1 1t1", 4, 0);
    text("1 1;t", 4, 0);
    text("1 1T", 3, 0);

    T.sentence("III. TOKENS: rows of digits, single other bytes, any blanks between");
    for (int c = 0; c < 256; c++) {
      // It would end the call's text.
      if (c == ')') continue;
      String sign = "" + (char) c;
      boolean digit = c >= '0' && c <= '9';
      text(sign + "1 1", digit || c == ' ' ? -1 : 0, 1);
      text("1" + sign + "1", c == ' ' ? -1 : digit ? c == '0' ? 0 : 0 : 1, 1);
      text("1 1" + sign, digit || c == ' ' || c == 't' ? -1 : c == ';' ? 4 : 3, 1);
      text("1 1" + sign + "1 1", c == ';' ? -1 : digit ? 2 : c == ' ' ? 4 : c == 't' ? 4 : 3, 2);
      text("1 1t" + sign, c == ' ' ? -1 : c == ';' ? 5 : 4, 1);
      text("1 1;" + sign + "1 1", digit || c == ' ' ? -1 : 4, 2);
    }
    text(many(20, " ") + "12" + many(20, " ") + "3" + many(20, " ") + "t" + many(20, " ") + ";1 1" + many(20, " "), -1, 2);
  }

  private static void faults() {
    T.sentence("III. FAULT: the place of the first TOKEN that can't go on there");
    text("x", 0, 0);
    text("  x", 2, 0);
    text("12 34 56", 6, 0);
    text("12 34  567;x", 7, 0);
    text("1 1;;", 4, 0);
    text("1 1; 1 x 1", 7, 0);
    text("1 1t ;1 1 t t", 12, 0);

    T.sentence("III. FAULT: a WHOLE above 99, too");
    text("1 1;  100 1", 6, 0);
    text("1 1;  10 0000100", 9, 0);

    T.sentence("III. FAULT: the first TOKEN of the 41st DIGITS");
    text(many(40, "1 1;") + "  7 7", 162, 0);
    text(many(40, "1 1;") + "x", 160, 0);
    text(many(40, "1 1;") + ";", 160, 0);
    text(many(39, "1 1;") + "1 1 1", 160, 0);

    T.sentence("III. FAULT: the TAPE's length, if it ends too soon");
    text("", 0, 0);
    text("   ", 3, 0);
    text(many(200, " "), 200, 0);
    text("1", 1, 0);
    text("1  ", 3, 0);
    text("1 1;", 4, 0);
    text("1 1;1  ", 7, 0);
    text(many(40, "1 1;"), 160, 0);
    text(many(40, "1 1;") + "  ", 162, 0);

    T.sentence("III. what is read is the WORD");
    T.given("reads(1 2;3 4t)").are("word(0, #)", 1, 2, 0).are("word(1, #)", 3, 4, 1).is("reads(5 6)", 1);
    T.are("word(0, #)", 5, 6, 0).is("word(1, 0)", -1).refused("reads(7 8;)", -6).are("word(0, #)", 5, 6, 0);
  }

  private static void proper(int proper, String... words) {
    for (String word : words) T.given("reads(" + word + ")").is("asks(0)", proper);
  }

  private static void proper() {
    T.sentence("III. PROPER, if none is TURNED");
    proper(1, "1 1", "1 1;1 1;1 1");
    proper(0, "1 1t", "1 1t;1 1;1 1", "1 1;1 1t;1 1", "1 1;1 1;1 1t");

    T.sentence("III. PROPER: of all but the first b is 1 or more");
    proper(1, "1 0", "0 0", "0 0;0 1", "1 1;0 1;0 1");
    proper(0, "1 1;0 0", "1 1;0 1;0 0", "1 1;0 0;0 1");

    T.sentence("III. PROPER: of all but the first a is not above b");
    proper(1, "2 1", "99 0;5 5", "2 1;1 1;99 99");
    proper(0, "1 1;2 1", "1 1;1 1;2 1", "1 1;6 5;1 1", "0 0;99 98");

    T.sentence("III. PROPER: behind one (not the first) with a and b alike a is 1 or more");
    proper(1, "1 1;0 1", "0 0;0 1", "1 1;1 1;1 1", "1 1;1 2;0 1", "1 1;3 3", "1 1;0 2;0 1", "1 1;2 2;1 1;1 2;0 1");
    proper(0, "1 1;1 1;0 1", "5 6;2 2;0 9", "1 1;1 2;3 3;0 1", "1 1;1 1;1 1;0 1", "1 1;2 2;0 1;1 1");
  }
}
