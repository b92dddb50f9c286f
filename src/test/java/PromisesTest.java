import java.math.BigInteger;
import java.util.Random;

/** Each promise of the document by hand: ordinary calls, the edges that it names, wrong calls. */
public final class PromisesTest {
  private static final int UNTOLD = Integer.MIN_VALUE;
  private static final long NOTHING = Long.MIN_VALUE;

  private static int promise = 0;
  private static int wrong = 0;
  private static CommonDenominator x = new CommonDenominator();

  public static void main(String[] args) {
    for (promise = 1; promise <= 44; promise++) {
      x = new CommonDenominator();
      test();
    }
    System.out.println(wrong == 0 ? "44 promises: all answers are as due" : wrong + " answers are not as due");
    if (wrong != 0) System.exit(1);
  }

  private static void test() {
    switch (promise) {
      case 1: newObject(); break;
      case 2: field(); break;
      case 3: way(); break;
      case 4: set(); break;
      case 5: measure(); break;
      case 6: combine(); break;
      case 7: begin(); break;
      case 8: step(); break;
      case 9: go(); break;
      case 10: keep(); break;
      case 11: feed(); break;
      case 12: end(); break;
      case 13: read(); break;
      case 14: solve(); break;
      case 15: fault(); break;
      case 16: undo(); break;
      case 17: image(); break;
      case 18: back(); break;
      case 19: value(); break;
      case 20: matrix(); break;
      case 21: norm(); break;
      case 22: compare(); break;
      case 23: state(); break;
      case 24: digit(); break;
      case 25: product(); break;
      case 26: determinant(); break;
      case 27: bounds(); break;
      case 28: outer(); break;
      case 29: inverse(); break;
      case 30: side(); break;
      case 31: simplest(); break;
      case 32: shared(); break;
      case 33: period(); break;
      case 34: round(); break;
      case 35: unit(); break;
      case 36: equation(); break;
      case 37: isRelation(); break;
      case 38: relation(); break;
      case 39: word(); break;
      case 40: spelt(); break;
      case 41: asks(); break;
      case 42: would(); break;
      case 43: count(); break;
      default: status(); break;
    }
  }

  // ---- what the tests have in common ----

  private static void due(String call, long got, long want) {
    if (got == want) return;
    wrong++;
    System.out.println("promise " + promise + ": " + call + " answered " + got + ", due is " + want);
  }

  /** The answer, and that the call was (0: was not) REFUSED by that. */
  private static void done(String call, long got, long want, int refusal) {
    due(call, got, want);
    due("status() behind " + call, x.status(), refusal);
  }

  private static void refused(String call, long got, int refusal) {
    done(call, got, refusal, refusal);
  }

  private static void values(int i, int a, int b, int c, int d) {
    due("value(" + i + ", 0)", x.value(i, 0), a);
    due("value(" + i + ", 1)", x.value(i, 1), b);
    due("value(" + i + ", 2)", x.value(i, 2), c);
    due("value(" + i + ", 3)", x.value(i, 3), d);
  }

  private static void write(String text) {
    x.end(0);
    for (int at = 0; at < text.length(); at += 20) {
      int[] five = new int[5];
      for (int k = 0; k < 20; k++) five[k / 4] = five[k / 4] << 8 | (at + k < text.length() ? text.charAt(at + k) : ' ');
      x.feed(five[0], five[1], five[2], five[3], five[4]);
    }
    x.end(text.length());
  }

  private static int reads(String text) {
    write(text);
    return x.read();
  }

  /** ROOT and ROOT times ROOT of the FIELD 0, 0, 2: 1.2599, 1.5874. */
  private static void cubeRoots() {
    x.set(0, 0, 1, 0, 1);
    x.set(1, 0, 0, 1, 1);
    x.begin(0, 1);
  }

  /** A COURSE with the same STEP for ever, "1 1": that of the FIELD 1, 1, 1. */
  private static void slowest() {
    reads("1 1");
    x.solve();
    x.begin(0, 1);
  }

  /** A COURSE of WAY 1 that has a PERIOD of 38 STEPS behind the third. */
  private static void longPeriod() {
    x.field(-3, -2, 1);
    x.way(1);
    x.set(0, 0, 1, 1, 1);
    x.set(1, 3, 0, 2, 1);
    x.begin(0, 1);
    x.way(0);
  }

  /** So many STEPS, one by one. */
  private static void steps(int many) {
    for (int k = 0; k < many; k++) x.step();
  }

  // ---- the promises ----

  private static void newObject() {
    due("count(0)", x.count(0), 0);
    due("count(1)", x.count(1), 0);
    due("count(2)", x.count(2), 2);
    for (int k = 4; k <= 18; k++) due("count(" + k + ")", x.count(k), 0);
    for (int i = 0; i < 6; i++) values(i, 0, 0, 0, 1);
    due("status()", x.status(), 0);
    due("NONE", CommonDenominator.NONE, -1);
    due("NOTHING", CommonDenominator.NOTHING, Long.MIN_VALUE);
  }

  private static void field() {
    x.set(0, 1, 2, 3, 4);
    cubeRoots();
    done("field(1, 1, 1)", x.field(1, 1, 1), -44, 0);
    due("count(0)", x.count(0), 1);
    due("count(5)", x.count(5), 0);
    for (int i = 0; i < 6; i++) values(i, 0, 0, 0, 1);
    done("field(0, 0, -3)", x.field(0, 0, -3), -243, 0);
    x.set(0, 0, 1, 0, 1);
    due("floor of a ROOT below 0", x.value(0, 5), -2);
    refused("field(4, 0, 0)", x.field(4, 0, 0), -1);
    refused("field(0, -4, 2)", x.field(0, -4, 2), -1);
    refused("field(0, 0, 4)", x.field(0, 0, 4), -1);
    refused("field: R 0", x.field(1, 1, 0), -4);
    refused("field: a root of 3", x.field(3, -1, 3), -4);
    refused("field: a root of -3", x.field(-3, -1, -3), -4);
    refused("field: a root of -2", x.field(-2, -1, -2), -4);
    done("field(0, -3, 1)", x.field(0, -3, 1), -135, 0);
    done("field(-3, 3, -3)", x.field(-3, 3, -3), -864, 0);
    done("field(0, 0, -3)", x.field(0, 0, -3), -243, 0);
    x.set(0, 0, 1, 0, 1);
    refused("field: a whole root", x.field(0, 0, 1), -4);
    refused("field: three real roots", x.field(0, 3, 1), -4);
    due("count(2)", x.count(2), -3);
    values(0, 0, 1, 0, 1);
  }

  private static void way() {
    done("way(1)", x.way(1), 0, 0);
    done("way(1) again", x.way(1), 1, 0);
    refused("way(2)", x.way(2), -1);
    refused("way(-1)", x.way(-1), -1);
    due("count(4)", x.count(4), 1);
    cubeRoots();
    x.way(0);
    due("the COURSE's way", x.count(6), 1);
    due("step()", x.step(), 1);
    due("TURNED, as .26 is below .59", x.digit(1, 2), 1);
  }

  private static void set() {
    done("set(0, 10, 20, -30, 40)", x.set(0, 10, 20, -30, 40), -1, 0);
    values(0, 1, 2, -3, 4);
    done("set(1, 3, 0, 0, -2)", x.set(1, 3, 0, 0, -2), -2, 0);
    values(1, -3, 0, 0, 2);
    done("set(2, 150, 150, 150, 1)", x.set(2, 150, 150, 150, 1), 577, 0);
    done("set(3, -150, -150, -150, -150)", x.set(3, -150, -150, -150, -150), 3, 0);
    values(3, 1, 1, 1, 1);
    done("set(3, 0, 0, 0, -7)", x.set(3, 0, 0, 0, -7), 0, 0);
    values(3, 0, 0, 0, 1);
    done("set(5, 1, 0, 0, 150)", x.set(5, 1, 0, 0, 150), 0, 0);
    refused("set(0, 151, 0, 0, 1)", x.set(0, 151, 0, 0, 1), -1);
    refused("set(0, 0, -151, 0, 1)", x.set(0, 0, -151, 0, 1), -1);
    refused("set(0, 0, 0, 151, 1)", x.set(0, 0, 0, 151, 1), -1);
    refused("set(0, 0, 0, 0, 151)", x.set(0, 0, 0, 0, 151), -1);
    refused("set(0, 0, 0, 0, 0)", x.set(0, 0, 0, 0, 0), -1);
    refused("set(6, 0, 0, 0, 0)", x.set(6, 0, 0, 0, 0), -1);
    refused("set(0, MIN, 0, 0, 1)", x.set(0, Integer.MIN_VALUE, 0, 0, 1), -1);
    refused("set(6, 0, 0, 0, 1)", x.set(6, 0, 0, 0, 1), -2);
    refused("set(-1, 0, 0, 0, 1)", x.set(-1, 0, 0, 0, 1), -2);
    values(0, 1, 2, -3, 4);
  }

  private static int measures(double number) {
    return x.measure(0, Double.doubleToRawLongBits(number));
  }

  private static void measure() {
    done("measure 2.75", measures(2.75), 2, 0);
    values(0, 11, 0, 0, 4);
    done("measure -0.0078125", measures(-0.0078125), -1, 0);
    values(0, -1, 0, 0, 128);
    done("measure 150", measures(150), 150, 0);
    done("measure -150", measures(-150), -150, 0);
    done("measure 128", measures(128), 128, 0);
    done("measure 149 by 128", measures(149 / 128.0), 1, 0);
    values(0, 149, 0, 0, 128);
    done("measure 0", measures(0.0), 0, 0);
    done("measure -0", measures(-0.0), 0, 0);
    values(0, 0, 0, 0, 1);
    measures(1.5);
    refused("measure 151", measures(151), -5);
    refused("measure 152", measures(152), -5);
    refused("measure 256", measures(256), -5);
    refused("measure 151 by 128", measures(151 / 128.0), -5);
    refused("measure 1 by 256", measures(1 / 256.0), -5);
    refused("measure 0.1", measures(0.1), -5);
    refused("measure 1e300", measures(1e300), -5);
    for (int power = 8; power < 200; power++) refused("measure 2 up " + power, measures(Math.scalb(1.0, power)), -5);
    for (int power = -8; power > -200; power--) refused("measure 2 up " + power, measures(Math.scalb(1.0, power)), -5);
    refused("measure the least", measures(Double.MIN_VALUE), -5);
    refused("measure without an end", measures(Double.NEGATIVE_INFINITY), -5);
    refused("measure none", measures(Double.NaN), -5);
    refused("measure(6, none)", x.measure(6, -1L), -2);
    refused("measure(-1, 0)", x.measure(-1, 0L), -2);
    values(0, 3, 0, 0, 2);
  }

  private static void combine() {
    x.set(0, 1, 1, 0, 2);
    x.set(1, 0, 1, -1, 3);
    done("add", x.combine(0, 0, 1, 2), 1, 0);
    values(2, 3, 5, -2, 6);
    done("less", x.combine(1, 0, 1, 2), 1, 0);
    values(2, 3, 1, 2, 6);
    // (1 + w)(w - ww) = w - www = w - 2
    done("times", x.combine(2, 0, 1, 2), -1, 0);
    values(2, -2, 1, 0, 6);
    done("by", x.combine(3, 2, 1, 3), 1, 0);
    values(3, 1, 1, 0, 2);
    done("by itself, into itself", x.combine(3, 1, 1, 1), 1, 0);
    values(1, 1, 0, 0, 1);
    done("0 by 1", x.combine(3, 5, 1, 4), 0, 0);
    values(4, 0, 0, 0, 1);
    refused("how 4", x.combine(4, 0, 0, 6), -1);
    refused("how -1", x.combine(-1, 0, 0, 0), -1);
    refused("i 6, by 0", x.combine(3, 6, 5, 0), -2);
    refused("j -1", x.combine(0, 0, -1, 0), -2);
    refused("k 6", x.combine(0, 0, 0, 6), -2);
    refused("by 0", x.combine(3, 0, 5, 0), -4);
    x.set(0, 100, 0, 0, 1);
    refused("200", x.combine(0, 0, 0, 2), -5);
    x.set(0, 1, 0, 0, 100);
    refused("1 by 10000", x.combine(2, 0, 0, 2), -5);
    values(2, -2, 1, 0, 6);
    x.set(0, 75, 0, 0, 1);
    done("150", x.combine(0, 0, 0, 2), 150, 0);
    done("1 by 150", x.combine(3, 1, 2, 2), 0, 0);
    values(2, 1, 0, 0, 150);
    x.field(-3, 3, -2);
    x.set(0, 3, -1, 2, 4);
    for (int b = -2; b <= 2; b++) {
      for (int c = -2; c <= 2; c++) {
        x.set(1, 1, b, c, 3);
        x.combine(3, 0, 1, 2);
        int refusal = x.status();
        x.combine(2, 2, 1, 3);
        due("by, then times", refusal == 0 && x.status() == 0 ? x.compare(3, 0) : 0, 0);
        x.combine(0, 0, 1, 2);
        x.combine(1, 2, 1, 3);
        due("and, then less", x.compare(3, 0), 0);
      }
    }
  }

  private static void begin() {
    x.set(0, 99, 1, 0, 1);
    x.set(1, 199, 0, 0, 2);
    x.set(2, -1, 1, 0, 1);
    x.set(3, 100, 0, 0, 1);
    x.set(4, -3, 1, 0, 1);
    refused("begin: FLOOR 100", x.begin(0, 1), -4);
    refused("begin: not above 0", x.begin(2, 4), -4);
    refused("begin: 0", x.begin(5, 2), -4);
    refused("begin: 100", x.begin(2, 3), -4);
    refused("begin: 100", x.begin(3, 2), -4);
    refused("begin(6, 4)", x.begin(6, 4), -2);
    refused("begin(0, -1)", x.begin(0, -1), -2);
    due("count(5)", x.count(5), 0);
    x.set(1, 150, 0, 0, 2);
    done("begin(1, 2)", x.begin(1, 2), 75, 0);
    x.set(1, 99, 0, 0, 1);
    done("FLOORS of 99", x.begin(1, 1), 99, 0);
    x.set(1, 150, 0, 0, 2);
    x.begin(1, 2);
    done("begin(2, 2)", x.begin(2, 2), 0, 0);
    x.way(1);
    x.step();
    done("in place of what was", x.begin(2, 1), 0, 0);
    due("count(7)", x.count(7), 0);
    due("count(6)", x.count(6), 1);
    refused("begin: not above 0", x.begin(5, 5), -4);
    due("what was stands", x.state(0, true, 0), 75);
  }

  private static void step() {
    refused("no COURSE", x.step(), -3);
    cubeRoots();
    done("step()", x.step(), 1, 0);
    // f = w - 1, g = ww - 1: u is w + 1, v is ww + w + 1.
    due("state(1, false, 0)", x.state(1, false, 0), 1);
    due("state(1, false, 1)", x.state(1, false, 1), 1);
    due("state(1, false, 2)", x.state(1, false, 2), 0);
    due("state(1, true, 2)", x.state(1, true, 2), 1);
    x.go(60);
    steps(30);
    refused("a number of PRODUCT would be beyond a long", x.step(), -5);
    due("count(7)", x.count(7), 33);
    slowest();
    for (int k = 1; k <= 60; k++) done("step " + k, x.step(), k, 0);
    refused("60 STEPS", x.step(), -5);
    x.field(0, 0, 2);
    x.set(0, 0, 1, 0, 1);
    x.set(1, 1, 0, 0, 1);
    x.begin(0, 1);
    done("v whole, WAY 0", x.step(), 1, 0);
    due("u is 0", x.state(1, false, 4), 0);
    refused("it ENDS", x.step(), -3);
    x.way(1);
    x.begin(0, 1);
    done("v whole, WAY 1", x.step(), 1, 0);
    due("u is 0", x.state(1, false, 0), 0);
    due("not TURNED", x.digit(1, 2), 0);
    done("u 0, WAY 1", x.step(), 2, 0);
    due("TURNED", x.digit(2, 2), 1);
    x.begin(0, 0);
    x.step();
    due("f and g alike: not TURNED", x.digit(1, 2), 0);
    due("u is 1", x.state(1, false, 0), 1);
    x.way(0);
    x.set(0, 1, 0, 0, 100);
    x.set(1, 1, 0, 0, 1);
    x.begin(0, 1);
    refused("a FLOOR of 100", x.step(), -5);
    x.set(0, 1, 0, 0, 99);
    x.begin(0, 1);
    done("a FLOOR of 99", x.step(), 1, 0);
    refused("it ENDS", x.step(), -3);
    x.set(0, 149, 0, 0, 150);
    x.set(1, 1, 0, 0, 149);
    x.begin(0, 1);
    refused("u would be 150 by 22201", x.step(), -5);
  }

  private static void go() {
    refused("go(0)", x.go(0), -1);
    refused("go(61)", x.go(61), -1);
    refused("go: no COURSE", x.go(1), -3);
    cubeRoots();
    done("go(2)", x.go(2), 2, 0);
    done("the PERIOD is found", x.go(60), 1, 0);
    done("found ahead it ends nothing", x.go(60), 30, 0);
    due("REFUSED later is not counted", x.count(17), 0);
    refused("the first was REFUSED", x.go(60), -5);
    x.set(0, 3, 0, 0, 4);
    x.set(1, 5, 0, 0, 2);
    x.begin(0, 1);
    done("till it ENDS", x.go(60), 3, 0);
    refused("it ENDS", x.go(60), -3);
    refused("go(0) when it ENDS", x.go(0), -1);
  }

  private static void keep() {
    refused("no COURSE", x.keep(0, 1), -3);
    refused("keep(6, 0)", x.keep(6, 0), -2);
    refused("keep(0, -1)", x.keep(0, -1), -2);
    cubeRoots();
    x.step();
    done("keep(2, 3)", x.keep(2, 3), 3, 0);
    values(2, 1, 1, 0, 1);
    values(3, 1, 1, 1, 1);
    done("keep(4, 4): i first", x.keep(4, 4), 3, 0);
    values(4, 1, 1, 1, 1);
    due("the COURSE stands", x.count(7), 1);
  }

  private static void feed() {
    for (int k = 1; k <= 10; k++) due("feed " + k, x.feed(0x31203B20, 0, 0, 0, 0x20), 20 * k);
    due("feed 11", x.feed(0, 0, 0, 0, 0), -1);
    due("status()", x.status(), 0);
    due("count(13)", x.count(13), 0);
    due("count(12)", x.count(12), 200);
    x.end(181);
    due("feed at 181", x.feed(0, 0, 0, 0, 0), -1);
    x.end(180);
    due("feed at 180", x.feed(0, 0, 0, 0, 0), 200);
    x.end(0);
    x.feed(0x20203120, 0x20203274, 0x3B342035, 0x20202020, 0x20203B31);
    x.end(18);
    due("read(): the highest byte first", x.read(), 2);
    due("word(1, 1)", x.word(1, 1), 5);
  }

  private static void end() {
    due("end(0)", x.end(0), 0);
    due("end(1)", x.end(1), -1);
    x.feed(0, 0, 0, 0, 0);
    due("end(-1)", x.end(-1), -1);
    due("end(21)", x.end(21), -1);
    due("end(20)", x.end(20), 20);
    due("end(3)", x.end(3), 3);
    due("count(12)", x.count(12), 3);
    due("end(4)", x.end(4), -1);
    due("status()", x.status(), 0);
  }

  private static void read() {
    done("1 1;2 3t", reads("1 1;2 3t"), 2, 0);
    due("the TAPE is empty", x.count(12), 0);
    done("blanks behind a t", reads("1 1 t  ; 2 2 t  "), 2, 0);
    done("blanks, leading noughts", reads("  007   000099 t ; 0 0  "), 2, 0);
    due("word(0, 0)", x.word(0, 0), 7);
    due("word(0, 1)", x.word(0, 1), 99);
    due("word(0, 2)", x.word(0, 2), 1);
    refused("nothing", reads(""), -6);
    refused("blanks alone", reads("   "), -6);
    refused("100", reads("1 100"), -6);
    due("the TAPE is empty", x.count(12), 0);
    refused("one number", reads("1"), -6);
    refused("three numbers", reads("1 1 1"), -6);
    refused("two t", reads("1 1tt"), -6);
    refused("T", reads("1 1T"), -6);
    refused("; at the end", reads("1 1;"), -6);
    refused("a comma", reads("1,1"), -6);
    refused("a sign", reads("-1 1"), -6);
    refused("a byte above 127", reads("1 1" + (char) 0xB2), -6);
    due("the WORD stands", x.word(0, 0), 7);
    StringBuilder forty = new StringBuilder("0 0");
    for (int k = 1; k < 40; k++) forty.append(";").append(k).append(" 1");
    done("40 DIGITS", reads(forty.toString()), 40, 0);
    due("word(39, 0)", x.word(39, 0), 39);
    refused("41 DIGITS", reads(forty + ";1 1"), -6);
  }

  private static void solve() {
    refused("no WORD", x.solve(), -4);
    reads("1 1");
    x.set(5, 1, 0, 0, 1);
    cubeRoots();
    done("1 1", x.solve(), -44, 0);
    due("no COURSE", x.count(5), 0);
    values(0, 0, -1, 1, 1);
    values(1, 0, 1, 0, 1);
    for (int i = 2; i < 6; i++) values(i, 0, 0, 0, 1);
    // The square of 0 1 is 0, 0, 1; 1, 0, 0; 0, 1, 1: ROOT is its own square times ROOT less that.
    reads("0 1");
    done("0 1", x.solve(), -31, 0);
    due("count(0)", x.count(0), 1);
    due("count(1)", x.count(1), 0);
    due("count(2)", x.count(2), 1);
    values(0, 0, -1, 1, 1);
    values(1, 0, 1, 0, 1);
    reads("4 0");
    refused("Q would be 4", x.solve(), -5);
    reads("0 0");
    refused("a whole root", x.solve(), -5);
    reads("0 0t");
    refused("TURNED: a whole root", x.solve(), -5);
    reads("0 99;0 99");
    refused("a number of M above 99", x.solve(), -5);
    reads("99 99;99 99;99 99;99 99;99 99;99 99;99 99;99 99;99 99;99 99;99 99");
    refused("a number of M beyond a long", x.solve(), -5);
    due("count(0)", x.count(0), 1);
    // By what the COURSE of u, v does: these STEPS for ever.
    reads("0 1;1 2");
    done("0 1;1 2", x.solve(), x.count(3), 0);
    x.begin(0, 1);
    due("go(60)", x.go(60), 2);
    due("period(0)", x.period(0), 0);
    due("asks(1)", x.asks(1), 2);
    int solved = 0;
    for (int k = 0; k < 18 * 18 * 18; k++) {
      x = new CommonDenominator();
      reads(spoken(k % 18) + ";" + spoken(k / 18 % 18) + ";" + spoken(k / 324));
      x.solve();
      if (x.status() != 0) continue;
      solved++;
      for (int i = 0; i < 3; i++) rowIsRootTimes(i);
    }
    due("WORDS that were SOLVED", solved > 300 ? 1 : 0, 1);
  }

  /** One of 18 DIGITS. */
  private static String spoken(int k) {
    return k / 2 % 3 + " " + k / 6 + (k % 2 == 1 ? "t" : "");
  }

  /** M, row i, times 1, u, v is ROOT times 1, u or v. */
  private static void rowIsRootTimes(int i) {
    x.set(2, 1, 0, 0, 1);
    x.set(3, 0, 1, 0, 1);
    if (i > 0) x.combine(2, 3, i - 1, 3);
    x.set(4, 0, 0, 0, 1);
    for (int j = 0; j < 3; j++) {
      x.set(5, (int) x.spelt(i, j), 0, 0, 1);
      x.combine(2, 5, j == 0 ? 2 : j - 1, 5);
      x.combine(0, 4, 5, 4);
    }
    due("row " + i + " of M", x.compare(3, 4), 0);
    due("none was REFUSED", x.count(17), 0);
  }

  private static void fault() {
    due("ahead of any", x.fault(), -1);
    String[] texts = {"", "   ", "1", "1 ", "1 1;", "1 1; ", "1 100", "100 1", "12t", "1 1tt", " 1 1 t 1", "1 1 ; t", "1,1",
      "x", "1 1 0000000000000000000000000000100", "99999999999999999999999999999999999 1", "1 1;1 1 1", "11;1 1"};
    int[] places = {0, 3, 1, 2, 4, 5, 2, 0, 2, 4, 7, 6, 1, 0, 4, 0, 8, 2};
    for (int k = 0; k < texts.length; k++) {
      refused("read \"" + texts[k] + "\"", reads(texts[k]), -6);
      due("fault of \"" + texts[k] + "\"", x.fault(), places[k]);
    }
    reads("1 1");
    due("without one", x.fault(), -1);
    StringBuilder forty = new StringBuilder("1 1");
    for (int k = 1; k < 40; k++) forty.append(";1 1");
    reads(forty + "; 1 1");
    due("the first TOKEN of the 41st", x.fault(), 161);
    reads(forty + ";");
    due("the TAPE ends ahead of the 41st", x.fault(), 160);
    reads(forty + ";x");
    due("another TOKEN there", x.fault(), 160);
    x.undo();
    due("undo() leaves it", x.fault(), 160);
  }

  private static void undo() {
    refused("there is none", x.undo(), -4);
    reads("1 1");
    x.field(0, 0, 2);
    x.set(0, 0, 1, 0, 1);
    x.set(1, 1, 0, 0, 1);
    x.measure(1, 0L);
    x.combine(2, 0, 0, 1);
    x.begin(0, 1);
    x.step();
    x.go(60);
    x.keep(2, 3);
    x.step();
    x.way(1);
    due("8 are kept", x.count(11), 8);
    x.set(9, 0, 0, 0, 1);
    due("what is REFUSED is none", x.count(11), 8);
    due("step", x.undo(), 5);
    due("count(7)", x.count(7), 3);
    due("keep", x.undo(), 7);
    values(3, 0, 0, 0, 1);
    due("go", x.undo(), 6);
    due("period(0)", x.period(0), -1);
    due("count(7)", x.count(7), 1);
    due("product(2, 2)", x.product(2, 2), 1);
    due("step", x.undo(), 5);
    due("begin", x.undo(), 4);
    due("count(5)", x.count(5), 0);
    due("combine", x.undo(), 3);
    values(1, 0, 0, 0, 1);
    due("measure", x.undo(), 2);
    values(1, 1, 0, 0, 1);
    due("set", x.undo(), 1);
    values(1, 0, 0, 0, 1);
    refused("8 were kept", x.undo(), -4);
    due("the TERM", x.count(4), 1);
    x.way(0);
    cubeRoots();
    x.go(5);
    reads("0 1");
    write("1 ");
    x.solve();
    due("solve", x.undo(), 9);
    due("count(2)", x.count(2), 2);
    due("a COURSE comes back", x.count(7), 3);
    due("with its PERIOD", x.period(0), 2);
    due("the TAPE is as it is", x.count(12), 2);
    due("read", x.undo(), 8);
    due("word(0, 1)", x.word(0, 1), 1);
    x.field(1, 1, 1);
    due("field", x.undo(), 0);
    due("a COURSE comes back", x.state(3, true, 2), 1);
    due("u of STATE 0", x.state(0, false, 1), 1);
    x.way(1);
    x.begin(1, 0);
    x.step();
    x.way(0);
    x.field(-1, -2, 3);
    x.field(1, 1, 1);
    due("field", x.undo(), 0);
    for (int k = 0; k < 3; k++) due("count(" + k + ")", x.count(k), k == 2 ? 3 : -1 - k);
    due("field", x.undo(), 0);
    due("count(7)", x.count(7), 1);
    due("count(6)", x.count(6), 1);
    due("u of STATE 0", x.state(0, false, 2), 1);
    due("step", x.undo(), 5);
    due("begin", x.undo(), 4);
    due("u of STATE 0", x.state(0, false, 1), 1);
    due("count(7)", x.count(7), 3);
  }

  private static void image() {
    refused("image(2)", x.image(2), -1);
    refused("image(-1)", x.image(-1), -1);
    done("without a COURSE", x.image(0), -1, 0);
    cubeRoots();
    x.go(2);
    done("image(1)", x.image(1), 2, 0);
    due("count(11)", x.count(11), 4);
    due("undo() is not of images", x.undo(), 6);
    due("back(1)", x.back(1), 2);
    due("product(2, 2)", x.product(2, 2), 5);
  }

  private static void back() {
    refused("back(2)", x.back(2), -1);
    refused("back(1)", x.back(1), -2);
    reads("1 1");
    cubeRoots();
    x.go(60);
    x.image(0);
    reads("2 2");
    x.field(1, 1, 1);
    x.way(1);
    write("123");
    done("back(0)", x.back(0), 3, 0);
    due("count(11)", x.count(11), 0);
    refused("nothing can be undone", x.undo(), -4);
    due("the WORD", x.word(0, 0), 1);
    due("the FIELD", x.count(2), 2);
    due("the STORE", x.value(0, 1), 1);
    due("the PERIOD", x.period(1), 1);
    due("the TERM", x.count(4), 1);
    due("the TAPE", x.count(12), 3);
    due("the COURSE's WAY", x.count(6), 0);
    x.step();
    done("back(0) again", x.back(0), 3, 0);
    refused("back(1)", x.back(1), -2);
    x.field(0, 0, 2);
    x.image(0);
    cubeRoots();
    done("without a COURSE", x.back(0), -1, 0);
    due("count(5)", x.count(5), 0);
  }

  private static void value() {
    x.set(2, -5, 4, 2, -6);
    values(2, 5, -4, -2, 6);
    due("SIGN", x.value(2, 4), -1);
    due("FLOOR", x.value(2, 5), -1);
    due("SIGN of 0", x.value(0, 4), 0);
    // 4 and 5 times ROOT less 6.4999... : 63 by 50 and 80 by 63 enclose ROOT.
    x.set(3, -63, 50, 0, 1);
    due("SIGN of 50 ROOT less 63", x.value(3, 4), -1);
    due("FLOOR of 50 ROOT less 63", x.value(3, 5), -1);
    x.set(3, -80, 0, 50, 1);
    due("SIGN of 50 ROOT ROOT less 80", x.value(3, 4), -1);
    x.set(3, 1, 99, -79, 1);
    due("SIGN of 1 and 99 ROOT less 79 ROOT ROOT", x.value(3, 4), 1);
    due("value(6, 0)", x.value(6, 0), UNTOLD);
    due("value(-1, 4)", x.value(-1, 4), UNTOLD);
    due("value(0, 6)", x.value(0, 6), UNTOLD);
    due("value(0, -1)", x.value(0, -1), UNTOLD);
  }

  private static void matrix() {
    x.field(1, -2, 3);
    x.set(1, 1, 2, 3, 5);
    // ROOT times (1, 2, 3): (9, 1 - 6, 2 + 3); times ROOT again: (15, 9 - 10, -5 + 5).
    long[] due = {1, 2, 3, 9, -5, 5, 15, -1, 0};
    for (int k = 0; k < 9; k++) due("matrix(1, " + k / 3 + ", " + k % 3 + ")", x.matrix(1, k / 3, k % 3), due[k]);
    due("matrix(6, 0, 0)", x.matrix(6, 0, 0), NOTHING);
    due("matrix(-1, 0, 0)", x.matrix(-1, 0, 0), NOTHING);
    due("matrix(1, 3, 0)", x.matrix(1, 3, 0), NOTHING);
    due("matrix(1, 0, -1)", x.matrix(1, 0, -1), NOTHING);
  }

  private static void norm() {
    // (1 + w) by 3: 1 + 2 by 27; 3 by 3; 3 by 9.
    x.set(0, 1, 1, 0, 3);
    long[] due = {1, 9, 1, 1, 1, 3};
    for (int k = 0; k < 6; k++) due("norm(0, " + k / 2 + ", " + k % 2 + ")", x.norm(0, k / 2, k % 2), due[k]);
    x.set(1, -1, 0, 0, 2);
    due("norm(1, 0, 0)", x.norm(1, 0, 0), -1);
    due("norm(1, 0, 1)", x.norm(1, 0, 1), 8);
    due("norm(1, 1, 0)", x.norm(1, 1, 0), -3);
    due("norm(1, 2, 1)", x.norm(1, 2, 1), 4);
    due("of 0", x.norm(5, 0, 0), 0);
    due("of 0, below", x.norm(5, 0, 1), 1);
    due("norm(6, 0, 0)", x.norm(6, 0, 0), NOTHING);
    due("norm(0, 3, 0)", x.norm(0, 3, 0), NOTHING);
    due("norm(0, -1, 0)", x.norm(0, -1, 0), NOTHING);
    due("norm(0, 0, 2)", x.norm(0, 0, 2), NOTHING);
    due("norm(0, 0, -1)", x.norm(0, 0, -1), NOTHING);
  }

  private static void compare() {
    x.set(0, 0, 1, 0, 1);
    x.set(1, 63, 0, 0, 50);
    x.set(2, 126, 0, 0, 100);
    due("ROOT and 1.26", x.compare(0, 1), -1);
    due("1.26 and ROOT", x.compare(1, 0), 1);
    due("alike", x.compare(1, 2), 0);
    due("compare(0, 0)", x.compare(0, 0), 0);
    due("compare(6, 0)", x.compare(6, 0), -2);
    due("compare(0, -1)", x.compare(0, -1), -2);
    due("it is not REFUSED", x.status(), 0);
    due("count(14)", x.count(14), 0);
  }

  private static void state() {
    due("no COURSE", x.state(0, false, 0), UNTOLD);
    cubeRoots();
    x.step();
    int[] u = {1, 1, 0, 1, 2};
    int[] v = {1, 1, 1, 1, 3};
    for (int k = 0; k < 5; k++) {
      due("state(1, false, " + k + ")", x.state(1, false, k), u[k]);
      due("state(1, true, " + k + ")", x.state(1, true, k), v[k]);
    }
    due("state(0, true, 2)", x.state(0, true, 2), 1);
    due("state(2, true, 2)", x.state(2, true, 2), UNTOLD);
    due("state(-1, true, 2)", x.state(-1, true, 2), UNTOLD);
    due("state(0, true, 5)", x.state(0, true, 5), UNTOLD);
    due("state(1, true, -1)", x.state(1, true, -1), UNTOLD);
  }

  private static void digit() {
    due("no COURSE", x.digit(1, 0), -1);
    x.way(1);
    cubeRoots();
    due("no STEP", x.digit(1, 0), -1);
    x.step();
    due("digit(1, 0)", x.digit(1, 0), 1);
    due("digit(1, 1)", x.digit(1, 1), 1);
    due("digit(1, 2)", x.digit(1, 2), 1);
    due("digit(0, 0)", x.digit(0, 0), -1);
    due("digit(2, 0)", x.digit(2, 0), -1);
    due("digit(1, 3)", x.digit(1, 3), -1);
    due("digit(1, -1)", x.digit(1, -1), -1);
  }

  private static void product() {
    due("no COURSE", x.product(0, 0), NOTHING);
    cubeRoots();
    for (int k = 0; k < 9; k++) due("no STEP", x.product(k / 3, k % 3), k % 4 == 0 ? 1 : 0);
    x.go(2);
    long[] due = {0, 1, 3, 0, 1, 4, 1, 1, 5};
    for (int k = 0; k < 9; k++) due("product(" + k / 3 + ", " + k % 3 + ")", x.product(k / 3, k % 3), due[k]);
    due("product(3, 0)", x.product(3, 0), NOTHING);
    due("product(0, -1)", x.product(0, -1), NOTHING);
    x.way(1);
    x.begin(0, 1);
    x.step();
    long[] turned = {0, 0, 1, 0, 1, 1, 1, 0, 1};
    for (int k = 0; k < 9; k++) due("TURNED", x.product(k / 3, k % 3), turned[k]);
  }

  private static void determinant() {
    due("no COURSE", x.determinant(), 0);
    cubeRoots();
    due("no STEP", x.determinant(), 1);
    x.go(60);
    x.go(60);
    due("WAY 0", x.determinant(), 1);
    x.way(1);
    x.begin(0, 1);
    for (int k = 0; k < 20; k++) {
      x.step();
      due("WAY 1", x.determinant(), x.count(9) % 2 == 0 ? 1 : -1);
    }
  }

  private static void bounds() {
    due("no COURSE", x.bounds(false, 0), NOTHING);
    cubeRoots();
    steps(2);
    due("a lower number is 0", x.bounds(true, 3), NOTHING);
    steps(2);
    // Row 0: 3, 12, 46; row 1: 4, 15, 58; row 2: 5, 19, 73.
    long[] u = {5, 4, 4, 3};
    long[] v = {19, 12, 5, 3};
    for (int k = 0; k < 4; k++) {
      due("bounds(false, " + k + ")", x.bounds(false, k), u[k]);
      due("bounds(true, " + k + ")", x.bounds(true, k), v[k]);
    }
    due("bounds(false, 4)", x.bounds(false, 4), NOTHING);
    due("bounds(true, 4)", x.bounds(true, 4), NOTHING);
    due("bounds(true, -1)", x.bounds(true, -1), NOTHING);
    x.set(2, -1, 1, 0, 1);
    x.begin(2, 1);
    steps(3);
    due("0 by 1", x.bounds(false, 0), 0);
    due("0 by 1, below", x.bounds(false, 1), 1);
    x.begin(0, 1);
    steps(33);
    // ROOT lies between fractions the products of which are far beyond a long.
    due("count(7)", x.count(7), 33);
    due("the least below ROOT", cubeOfBound(0), -1);
    due("the greatest above ROOT", cubeOfBound(2), 1);
  }

  /** SIGN of the cube of a bound of u less 2. */
  private static int cubeOfBound(int what) {
    BigInteger upper = BigInteger.valueOf(x.bounds(false, what)).pow(3);
    return upper.compareTo(BigInteger.valueOf(x.bounds(false, what + 1)).pow(3).shiftLeft(1));
  }

  private static void outer() {
    due("no COURSE", x.outer(false, 0), -1);
    cubeRoots();
    steps(2);
    due("no BOUNDS", x.outer(false, 0), -1);
    steps(2);
    // Of u 4 by 3, 5 by 4, 58 by 46; of v 5 by 3, 19 by 12, 73 by 46.
    due("outer(false, 0)", x.outer(false, 0), 1);
    due("outer(false, 1)", x.outer(false, 1), 0);
    due("outer(true, 0)", x.outer(true, 0), 1);
    due("outer(true, 1)", x.outer(true, 1), 0);
    due("outer(false, 2)", x.outer(false, 2), -1);
    due("outer(true, 2)", x.outer(true, 2), -1);
    due("outer(true, -1)", x.outer(true, -1), -1);
    x.undo();
    // Row 0: 1, 3, 12; row 1: 1, 4, 15; row 2: 1, 5, 19.
    due("outer(false, 0)", x.outer(false, 0), 0);
    due("outer(false, 1)", x.outer(false, 1), 1);
    // Of u 1, 2, 2; of v 1, 1, 2.
    x.set(0, 3, -1, 0, 1);
    x.set(1, -3, 1, 3, 2);
    x.begin(0, 1);
    steps(3);
    due("the greatest of like ones", x.outer(false, 1), 1);
    due("the least of like ones", x.outer(true, 0), 0);
    due("the greatest", x.outer(true, 1), 2);
  }

  private static void inverse() {
    due("no COURSE", x.inverse(0, 0), NOTHING);
    x.way(1);
    cubeRoots();
    for (int k = 0; k < 9; k++) due("no STEP", x.inverse(k / 3, k % 3), k % 4 == 0 ? 1 : 0);
    boolean told = true;
    for (int n = 0; n < 60; n++) {
      x.step();
      boolean wide = false;
      for (int k = 0; k < 9; k++) wide |= x.product(k / 3, k % 3) > 1000000000L;
      for (int k = 0; k < 9; k++) {
        int i = k / 3;
        int j = k % 3;
        if (wide) {
          due("a number above 1000000000", x.inverse(i, j), NOTHING);
          told = false;
          continue;
        }
        long sum = 0;
        for (int m = 0; m < 3; m++) sum += x.product(i, m) * x.inverse(m, j);
        due("together they are 1", sum, i == j ? 1 : 0);
      }
    }
    due("both were met", told ? 1 : 0, 0);
    due("inverse(3, 0)", x.inverse(3, 0), NOTHING);
    x.begin(0, 1);
    due("inverse(0, -1)", x.inverse(0, -1), NOTHING);
  }

  private static void side() {
    due("no COURSE", x.side(false, 1, 1), -2);
    cubeRoots();
    x.go(3);
    due("side(false, 5, 4)", x.side(false, 5, 4), 1);
    due("side(false, 1, 1)", x.side(false, 1, 1), 1);
    due("side(false, 63, 50)", x.side(false, 63, 50), -1);
    due("side(false, 635, 504)", x.side(false, 635, 504), 1);
    due("side(true, 800, 504)", x.side(true, 800, 504), 1);
    due("side(true, -999, 999)", x.side(true, -999, 999), 1);
    due("side(false, 1000, 1)", x.side(false, 1000, 1), -2);
    due("side(false, -1000, 1)", x.side(false, -1000, 1), -2);
    due("side(false, 1, 0)", x.side(false, 1, 0), -2);
    due("side(false, 1, -1)", x.side(false, 1, -1), -2);
    due("side(false, 1, 1000)", x.side(false, 1, 1000), -2);
    x.set(0, 1, 0, 0, 3);
    x.begin(0, 0);
    due("just that", x.side(true, 333, 999), 0);
  }

  private static void simplest() {
    due("no COURSE", x.simplest(false, 0), NOTHING);
    cubeRoots();
    x.go(2);
    due("no BOUNDS", x.simplest(false, 0), NOTHING);
    x.go(1);
    due("1 .. 4 by 3", x.simplest(false, 0), 1);
    due("1 .. 4 by 3, below", x.simplest(false, 1), 1);
    x.go(1);
    due("5 by 4 .. 4 by 3", x.simplest(false, 0), 4);
    due("5 by 4 .. 4 by 3, below", x.simplest(false, 1), 3);
    due("19 by 12 .. 5 by 3", x.simplest(true, 0), 5);
    due("19 by 12 .. 5 by 3, below", x.simplest(true, 1), 3);
    due("simplest(true, 2)", x.simplest(true, 2), NOTHING);
    due("simplest(true, -1)", x.simplest(true, -1), NOTHING);
    for (int n = 5; n < 11; n++) {
      x.step();
      simplestBySearch(false);
      simplestBySearch(true);
    }
    x.set(2, -1, 1, 0, 1);
    x.begin(2, 1);
    steps(3);
    due("0", x.simplest(false, 0), 0);
    due("0, below", x.simplest(false, 1), 1);
    longPeriod();
    for (int n = 0; n < 20; n++) {
      x.step();
      if (x.simplest(false, 0) == NOTHING) continue;
      simplestBySearch(false);
      simplestBySearch(true);
    }
  }

  private static void simplestBySearch(boolean other) {
    for (long q = 1; q < 100000; q++) {
      long p = (q * x.bounds(other, 0) + x.bounds(other, 1) - 1) / x.bounds(other, 1);
      if (p * x.bounds(other, 3) > q * x.bounds(other, 2)) continue;
      due("the first upper number", x.simplest(other, 0), p);
      due("the first lower number", x.simplest(other, 1), q);
      return;
    }
  }

  private static void shared() {
    due("no COURSE", x.shared(0), NOTHING);
    cubeRoots();
    x.go(2);
    due("no BOUNDS", x.shared(0), NOTHING);
    x.go(1);
    due("by 1", x.shared(0), 1);
    due("by 1, for u", x.shared(1), 1);
    due("by 1, for v", x.shared(2), 1);
    x.go(1);
    due("by 3", x.shared(0), 3);
    due("by 3, for u", x.shared(1), 4);
    due("by 3, for v", x.shared(2), 5);
    due("shared(3)", x.shared(3), NOTHING);
    due("shared(-1)", x.shared(-1), NOTHING);
    long before = 0;
    int known = 0;
    for (int n = 5; n <= 33; n++) {
      x.step();
      long q = x.shared(0);
      if (q == NOTHING) continue;
      known = n;
      due("not falling", q >= before && q <= x.product(0, 0) ? 1 : 0, 1);
      due("within", x.shared(1) * x.bounds(false, 1) >= q * x.bounds(false, 0) ? 1 : 0, 1);
      before = q;
    }
    // The least lower number is 2620 behind 9 STEPS, 10079 behind 10.
    due("the last STEP with one", known, 9);
    // A least lower number of 10000, and a q of 9999.
    x.set(2, 3, 0, 1, 2);
    x.set(3, 2, 5, -4, 4);
    x.begin(2, 3);
    steps(13);
    due("a lower number of 10000", Math.min(x.product(0, 0), x.product(0, 1)), 10000);
    due("none up to 9999", x.shared(0), NOTHING);
    x.field(-2, 0, -1);
    x.set(0, 0, -1, 1, 2);
    x.set(1, 1, 1, 1, 2);
    x.begin(0, 1);
    steps(17);
    due("by 9999", x.shared(0), 9999);
  }

  private static void period() {
    due("no COURSE", x.period(0), -1);
    cubeRoots();
    x.go(2);
    due("none yet", x.period(0), -1);
    x.step();
    due("START", x.period(0), 2);
    due("LENGTH", x.period(1), 1);
    x.go(10);
    due("that stays", x.period(1), 1);
    due("period(2)", x.period(2), -1);
    due("period(-1)", x.period(-1), -1);
    longPeriod();
    due("go(60)", x.go(60), 41);
    due("START", x.period(0), 3);
    due("LENGTH", x.period(1), 38);
    x.set(0, 3, 0, 0, 4);
    x.set(1, 5, 0, 0, 2);
    x.begin(0, 1);
    x.go(60);
    due("none when it ENDS", x.period(1), -1);
  }

  private static void round() {
    due("no COURSE", x.round(0, 0), NOTHING);
    cubeRoots();
    due("no PERIOD", x.round(0, 0), NOTHING);
    x.go(60);
    long[] due = {0, 0, 1, 1, 0, 3, 0, 1, 3};
    for (int k = 0; k < 9; k++) due("round(" + k / 3 + ", " + k % 3 + ")", x.round(k / 3, k % 3), due[k]);
    x.step();
    due("that stays", x.round(2, 2), 3);
    due("round(3, 0)", x.round(3, 0), NOTHING);
    due("round(0, -1)", x.round(0, -1), NOTHING);
    x.field(2, 1, 1);
    reads("1 2;0 1");
    x.solve();
    x.begin(0, 1);
    x.go(60);
    due("two STEPS", x.period(1), 2);
    // 0 0 1; 1 0 1; 0 1 2 times 0 0 1; 1 0 0; 0 1 1.
    long[] two = {0, 1, 1, 0, 1, 2, 1, 2, 2};
    for (int k = 0; k < 9; k++) due("two STEPS", x.round(k / 3, k % 3), two[k]);
    longPeriod();
    x.go(60);
    long[] m = {1, 0, 0, 0, 1, 0, 0, 0, 1};
    for (int k = 4; k <= 41; k++) m = times(m, x.digit(k, 0), x.digit(k, 1), x.digit(k, 2) == 1);
    for (int k = 0; k < 9; k++) due("38 STEPS", x.round(k / 3, k % 3), m[k]);
  }

  private static long[] times(long[] m, int a, int b, boolean turned) {
    int[] square = turned ? new int[] {0, 0, 1, 0, 1, a, 1, 0, b} : new int[] {0, 0, 1, 1, 0, a, 0, 1, b};
    long[] made = new long[9];
    for (int k = 0; k < 27; k++) made[k / 3] += m[k / 9 * 3 + k % 3] * square[k % 3 * 3 + k / 3 % 3];
    return made;
  }

  private static void unit() {
    due("no COURSE", x.unit(0), UNTOLD);
    cubeRoots();
    due("no PERIOD", x.unit(0), UNTOLD);
    x.go(60);
    // Row 0 is 0, 0, 1: v of STATE 2, 1 and ROOT and ROOT ROOT.
    int[] due = {1, 1, 1, 1};
    for (int k = 0; k < 4; k++) due("unit(" + k + ")", x.unit(k), due[k]);
    due("unit(4)", x.unit(4), UNTOLD);
    due("unit(-1)", x.unit(-1), UNTOLD);
    longPeriod();
    x.go(60);
    due("it can't be a VALUE", x.unit(0), UNTOLD);
    slowest();
    x.step();
    due("ROOT", x.unit(1), 1);
    due("ROOT alone", x.unit(0), 0);
    int units = 0;
    Random random = new Random(1);
    for (int k = 0; k < 3000; k++) {
      x = new CommonDenominator();
      if (k % 2 == 1) x.field(1, 1, 1);
      x.way(k / 1500);
      for (int i = 0; i < 2; i++) {
        x.set(i, random.nextInt(6) - 2, random.nextInt(5) - 2, random.nextInt(5) - 2, 1 + random.nextInt(3));
      }
      x.begin(0, 1);
      x.go(60);
      if (x.unit(0) != UNTOLD && unitIsRowZero()) units++;
    }
    due("UNITS that were met: " + units, units > 20 ? 1 : 0, 1);
  }

  /** UNIT by combine(), where what comes of that can be. */
  private static boolean unitIsRowZero() {
    int before = x.count(17);
    for (int other = 0; other < 2; other++) {
      int k = x.period(0);
      boolean v = other == 1;
      x.set(other, x.state(k, v, 0), x.state(k, v, 1), x.state(k, v, 2), x.state(k, v, 3));
    }
    x.set(2, 1, 0, 0, 1);
    x.set(3, 0, 0, 0, 1);
    for (int j = 0; j < 3; j++) {
      if (x.round(0, j) > 150) return false;
      x.set(4, (int) x.round(0, j), 0, 0, 1);
      x.combine(2, 4, j == 0 ? 2 : j - 1, 4);
      x.combine(0, 3, 4, 3);
    }
    if (x.count(17) != before) return false;
    for (int what = 0; what < 4; what++) due("UNIT", x.unit(what), x.value(3, what));
    return true;
  }

  private static void equation() {
    due("no COURSE", x.equation(0), NOTHING);
    cubeRoots();
    due("no PERIOD", x.equation(0), NOTHING);
    x.go(60);
    due("T", x.equation(0), 3);
    due("U", x.equation(1), -3);
    due("D", x.equation(2), 1);
    due("equation(3)", x.equation(3), NOTHING);
    due("equation(-1)", x.equation(-1), NOTHING);
    longPeriod();
    x.go(60);
    long most = 0;
    for (int k = 0; k < 9; k++) most = Math.max(most, x.round(k / 3, k % 3));
    due("a number above 1000000000", most > 1000000000L ? 1 : 0, 1);
    due("T", x.equation(0), NOTHING);
  }

  private static void isRelation() {
    due("no COURSE", x.isRelation(0, 0, 0) ? 1 : 0, 0);
    x.set(0, 3, 1, 0, 4);
    x.set(1, 1, 2, 0, 3);
    x.begin(0, 1);
    // 8 u = 6 + 2 w, 3 v = 1 + 2 w: -5 + 8 u - 3 v is 0... with 8 u - 3 v = 5.
    due("-5, 8, -3", x.isRelation(-5, 8, -3) ? 1 : 0, 1);
    due("5, -8, 3", x.isRelation(5, -8, 3) ? 1 : 0, 1);
    due("-500, 800, -300", x.isRelation(-500, 800, -300) ? 1 : 0, 1);
    due("0, 0, 0", x.isRelation(0, 0, 0) ? 1 : 0, 1);
    due("-5, 8, -2", x.isRelation(-5, 8, -2) ? 1 : 0, 0);
    due("-4, 8, -3", x.isRelation(-4, 8, -3) ? 1 : 0, 0);
    x.set(0, 1, 0, 0, 3);
    x.set(1, 1, 0, 0, 150);
    x.begin(0, 1);
    x.step();
    due("-333, 999, 0", x.isRelation(-333, 999, 0) ? 1 : 0, 1);
    due("0, 1, -50", x.isRelation(0, 1, -50) ? 1 : 0, 1);
    due("0, -20, 1000", x.isRelation(0, -20, 1000) ? 1 : 0, 0);
    due("0, 20, -1000", x.isRelation(0, 20, -1000) ? 1 : 0, 0);
    x.set(0, 1, 0, 0, 2);
    x.begin(0, 0);
    due("500, -1000, 0", x.isRelation(500, -1000, 0) ? 1 : 0, 0);
    due("499, -998, 0", x.isRelation(499, -998, 0) ? 1 : 0, 1);
    x.set(0, 2, 0, 0, 1);
    x.begin(0, 0);
    due("1000, -500, 0", x.isRelation(1000, -500, 0) ? 1 : 0, 0);
    due("-1000, 500, 0", x.isRelation(-1000, 500, 0) ? 1 : 0, 0);
    due("998, -499, 0", x.isRelation(998, -499, 0) ? 1 : 0, 1);
  }

  private static void relation() {
    due("no COURSE", x.relation(9, 0), UNTOLD);
    cubeRoots();
    due("there is none", x.relation(9, 0), UNTOLD);
    x.set(0, 3, 1, 0, 4);
    x.set(1, 1, 2, 0, 3);
    x.begin(0, 1);
    due("of 7", x.relation(7, 0), UNTOLD);
    due("k of 8", x.relation(8, 0), -5);
    due("l of 8", x.relation(8, 1), 8);
    due("m of 8", x.relation(8, 2), -3);
    due("relation(0, 0)", x.relation(0, 0), UNTOLD);
    due("relation(10, 0)", x.relation(10, 0), UNTOLD);
    due("relation(9, 3)", x.relation(9, 3), UNTOLD);
    due("relation(9, -1)", x.relation(9, -1), UNTOLD);
    x.set(0, 1, 0, 0, 1);
    x.set(1, 1, 0, 0, 1);
    x.begin(0, 1);
    // Of -1 0 1, -1 1 0, 0 -1 1 and what is like these the first.
    due("k", x.relation(9, 0), -1);
    due("l", x.relation(9, 1), 0);
    due("m", x.relation(9, 2), 1);
    x.set(2, 0, 1, 0, 1);
    x.begin(1, 2);
    due("v beside: m is 0", x.relation(3, 2), 0);
    x.set(0, 1, 0, 0, 3);
    x.set(1, 2, 0, 0, 3);
    x.begin(0, 1);
    due("of 1, with all three", x.relation(1, 0), -1);
    due("of 1, l", x.relation(1, 1), 1);
    due("of 1, m", x.relation(1, 2), 1);
    x.undo();
    x.set(0, 0, 1, 0, 1);
    x.set(1, 0, 2, 0, 1);
    x.begin(0, 1);
    due("l of u, 2 u", x.relation(2, 1), -2);
    due("m of u, 2 u", x.relation(2, 2), 1);
    x.set(0, 0, 0, 1, 1);
    x.set(1, 1, 0, 1, 1);
    x.begin(0, 1);
    due("k of u, u and 1", x.relation(2, 0), -1);
    due("l of u, u and 1", x.relation(2, 1), -1);
    due("m of u, u and 1", x.relation(2, 2), 1);
  }

  private static void word() {
    due("no WORD", x.word(0, 0), -1);
    reads("1 2;3 4t");
    int[] due = {1, 2, 0, 3, 4, 1};
    for (int k = 0; k < 6; k++) due("word(" + k / 3 + ", " + k % 3 + ")", x.word(k / 3, k % 3), due[k]);
    due("word(2, 0)", x.word(2, 0), -1);
    due("word(-1, 2)", x.word(-1, 2), -1);
    due("word(0, 3)", x.word(0, 3), -1);
    due("word(1, -1)", x.word(1, -1), -1);
    due("word(MAX, 0)", x.word(Integer.MAX_VALUE, 0), -1);
    reads("x");
    due("word(1, 0)", x.word(1, 0), 3);
  }

  private static void spelt() {
    due("no WORD", x.spelt(0, 0), NOTHING);
    reads("1 2;3 4t");
    // 0 0 1; 1 0 1; 0 1 2 times 0 0 1; 0 1 3; 1 0 4.
    long[] due = {1, 0, 4, 1, 0, 5, 2, 1, 11};
    for (int k = 0; k < 9; k++) due("spelt(" + k / 3 + ", " + k % 3 + ")", x.spelt(k / 3, k % 3), due[k]);
    due("spelt(3, 0)", x.spelt(3, 0), NOTHING);
    due("spelt(0, -1)", x.spelt(0, -1), NOTHING);
    StringBuilder wide = new StringBuilder("0 0");
    for (int k = 0; k < 12; k++) wide.append(";0 99");
    reads(wide.toString());
    due("beyond a long", x.spelt(2, 2), NOTHING);
    due("beyond a long", x.spelt(1, 1), NOTHING);
    // 99 eight times, 6 times 99 five times, 6 times 99 twice.
    due("another number is not", x.spelt(2, 0), 9227504003741001L);
  }

  private static void asks() {
    due("no WORD", x.asks(0), -1);
    due("no WORD", x.asks(1), -1);
    String[] proper = {"5 0", "0 0", "5 0;0 1", "0 0;1 1;1 2", "9 1;2 2;1 5;0 3", "3 3;0 1", "1 1;2 2"};
    String[] others = {"1 1t", "5 0;0 0", "5 0;2 1", "0 0;1 1;0 2", "1 1;1 2t", "1 1;1 2;0 0"};
    for (String text : proper) {
      reads(text);
      due("PROPER: " + text, x.asks(0), 1);
    }
    for (String text : others) {
      reads(text);
      due("not PROPER: " + text, x.asks(0), 0);
    }
    due("asks(1) without a COURSE", x.asks(1), 0);
    due("asks(2)", x.asks(2), -1);
    due("asks(-1)", x.asks(-1), -1);
    cubeRoots();
    reads("1 1;2 3;3 3;3 3;3 2");
    due("no STEP", x.asks(1), 0);
    x.go(2);
    due("2 STEPS", x.asks(1), 2);
    x.go(60);
    x.go(60);
    due("all but the last", x.asks(1), 4);
    reads("1 1;2 3t");
    due("TURNED or not", x.asks(1), 1);
    reads("1 1;2 3");
    due("the whole WORD", x.asks(1), 2);
    reads("0 1;2 3");
    due("another a", x.asks(1), 0);
    reads("1 0;2 3");
    due("another b", x.asks(1), 0);
    reads("1 1t;2 3");
    due("TURNED", x.asks(1), 0);
    reads("1 1;1 3");
    due("another a", x.asks(1), 1);
    x.field(1, 1, 1);
    due("no COURSE", x.asks(1), 0);
  }

  private static void would() {
    x.set(0, 0, 1, 0, 1);
    x.set(1, 0, 0, 1, 1);
    x.set(2, 3, 0, 0, 4);
    x.set(3, 5, 0, 0, 2);
    int[] due = {3, 2, 1};
    for (int k = 0; k < 3; k++) due("would(0, 1, 0, " + k + ")", x.would(0, 1, 0, k), due[k]);
    int[] ending = {3, 1, -1};
    for (int k = 0; k < 3; k++) due("would(2, 3, 0, " + k + ")", x.would(2, 3, 0, k), ending[k]);
    due("nothing is done", x.count(5), 0);
    due("nothing is done", x.count(11), 4);
    due("it can't begin", x.would(4, 0, 0, 0), UNTOLD);
    due("it can't begin", x.would(0, 4, 1, 1), UNTOLD);
    due("would(6, 0, 0, 0)", x.would(6, 0, 0, 0), UNTOLD);
    due("would(0, -1, 0, 0)", x.would(0, -1, 0, 0), UNTOLD);
    due("would(0, 1, 2, 0)", x.would(0, 1, 2, 0), UNTOLD);
    due("would(0, 1, -1, 0)", x.would(0, 1, -1, 0), UNTOLD);
    due("would(0, 1, 0, 3)", x.would(0, 1, 0, 3), UNTOLD);
    due("would(0, 1, 0, -1)", x.would(0, 1, 0, -1), UNTOLD);
    x.set(4, 1, 0, 0, 1);
    x.set(5, 2, 0, 0, 1);
    due("it ENDS at once", x.would(4, 0, 0, 0), 0);
    due("it ENDS at once", x.would(4, 0, 0, 1), 1);
    x.set(4, 1, 0, 0, 100);
    due("REFUSED at once", x.would(4, 0, 0, 0), 0);
    due("REFUSED at once", x.would(4, 0, 0, 1), 3);
    x.field(-3, -2, 2);
    x.set(0, 0, 1, 0, 3);
    x.set(1, 3, 0, -1, 3);
    due("none of these by 60", x.would(0, 1, 1, 0), 60);
    due("none of these by 60", x.would(0, 1, 1, 1), 0);
    due("none of these by 60", x.would(0, 1, 1, 2), -1);
    x.begin(0, 1);
    x.go(5);
    int steps = x.count(7);
    x.would(0, 1, 1, 0);
    due("the COURSE stands", x.count(7), steps);
  }

  private static void count() {
    x.way(1);
    x.set(0, 0, 1, 0, 1);
    x.set(1, 1, 0, 0, 1);
    x.begin(0, 1);
    x.way(0);
    x.go(3);
    int[] first = {0, 0, 2, -108, 0, 1, 1, 3, 0, 2, 0, 4, 0};
    for (int k = 0; k < 13; k++) due("count(" + k + ")", x.count(k), first[k]);
    due("count(-1)", x.count(-1), UNTOLD);
    due("count(19)", x.count(19), UNTOLD);
    x.begin(0, 1);
    x.step();
    due("count(8)", x.count(8), 1);
    reads("1 1;1 1");
    x.feed(0, 0, 0, 0, 0);
    due("count(10)", x.count(10), 2);
    due("count(12)", x.count(12), 20);
    for (int k = 0; k < 6; k++) {
      for (int n = 0; n <= k; n++) {
        if (k == 0) x.way(7);
        if (k == 1) x.back(0);
        if (k == 2) x.step();
        if (k == 3) x.field(0, 0, 0);
        if (k == 4) x.measure(0, -1L);
        if (k == 5) x.read();
      }
    }
    for (int k = 0; k < 6; k++) due("count(" + (13 + k) + ")", x.count(13 + k), k + 1);
    x.field(1, 1, 1);
    for (int k = 5; k < 10; k++) due("count(" + k + ") without a COURSE", x.count(k), 0);
  }

  private static void status() {
    due("ahead of any", x.status(), 0);
    x.field(9, 0, 0);
    due("field", x.status(), -1);
    x.feed(0, 0, 0, 0, 0);
    x.end(-1);
    x.compare(9, 9);
    due("what only tells leaves it", x.status(), -1);
    x.way(0);
    due("way", x.status(), 0);
    x.set(9, 0, 0, 0, 1);
    due("set", x.status(), -2);
    x.image(0);
    due("image", x.status(), 0);
    x.undo();
    due("undo", x.status(), -4);
    x.set(0, -1, 0, 0, 1);
    due("a FLOOR of -1 is no refusal", x.status(), 0);
    x.read();
    due("read", x.status(), -6);
    x.back(0);
    due("back", x.status(), 0);
    x.keep(0, 1);
    due("keep", x.status(), -3);
  }
}
