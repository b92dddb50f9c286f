import java.lang.reflect.Method;
import java.util.Random;

/** Long runs of calls, asked of the class and of Plain alike: each answer has to be the same. */
public final class RandomRunsTest {
  private static final String[] CHANGES = {"field", "way", "set", "set", "set", "set", "measure", "combine", "combine",
    "begin", "begin", "begin", "step", "step", "step", "go", "go", "keep", "feed", "feed", "end", "read", "read", "solve",
    "undo", "image", "back"};
  private static final String[] TELLS = {"fault", "value", "matrix", "norm", "compare", "state", "digit", "product",
    "determinant", "bounds", "outer", "inverse", "side", "simplest", "shared", "period", "round", "unit", "equation",
    "isRelation", "relation", "word", "spelt", "asks", "would", "count", "status"};

  /** P, Q, R, WAY, u, v of COURSES with a long PERIOD, or of 60 STEPS without one. */
  private static final int[][] LONG = {{-3, -2, 1, 1, 0, 1, 1, 1, 3, 0, 2, 1}, {-3, -3, -3, 1, 3, 2, 1, 1, -2, 0, 1, 1},
    {-3, -2, 2, 1, 0, 1, 0, 3, 3, 0, -1, 3}, {-3, -3, 1, 0, 2, 2, 0, 3, 3, 2, 1, 3}};

  private final Random random;
  private final Method[] ours = CommonDenominator.class.getDeclaredMethods();
  private final CommonDenominator one = new CommonDenominator();
  private final Plain other = new Plain();
  private final StringBuilder calls = new StringBuilder();
  private int wrong = 0;
  private boolean wide = false;
  /** One number of so many is far off, or at an edge. */
  private int odd = 60;

  private RandomRunsTest(long seed) {
    random = new Random(seed);
  }

  public static void main(String[] args) throws Exception {
    int runs = args.length > 0 ? Integer.parseInt(args[0]) : 400;
    long first = args.length > 1 ? Long.parseLong(args[1]) : 1;
    int wrong = 0;
    for (long seed = first; seed < first + runs && wrong < 5; seed++) wrong += new RandomRunsTest(seed).run(512);
    System.out.println(wrong == 0 ? runs + " random runs: all answers are alike" : "random runs: some answers differ");
    if (wrong != 0) System.exit(1);
  }

  private int run(int length) throws Exception {
    int kind = random.nextInt(6);
    wide = kind == 4;
    odd = kind == 5 ? 5 : 60;
    for (int k = 0; k < length && wrong == 0; k++) {
      if (random.nextInt(100) < (kind == 0 ? 50 : 35)) change(kind);
      else ask(TELLS[random.nextInt(TELLS.length)], null);
    }
    return wrong;
  }

  private void change(int kind) throws Exception {
    String name = CHANGES[random.nextInt(CHANGES.length)];
    // Other kinds of runs: seldom another FIELD; long COURSES; many TEXTS.
    if (kind == 1 && (name.equals("field") || name.equals("solve")) && random.nextInt(8) > 0) name = "step";
    if (kind == 2 && random.nextInt(2) == 0) name = "go";
    if (kind == 3 && random.nextInt(2) == 0) name = new String[] {"feed", "read", "solve"}[random.nextInt(3)];
    if (name.equals("begin") && random.nextBoolean()) ask("set", new Object[] {0, small(), small(), small(), 1});
    if (name.equals("begin") && random.nextInt(3) == 0) {
      int sign = Integer.signum(other.count(2));
      ask("set", new Object[] {0, random.nextInt(3) / 2, sign, 0, 1});
      ask("set", new Object[] {1, random.nextInt(3) / 2, 0, 1, 1});
      ask("begin", new Object[] {0, 1});
      return;
    }
    if (name.equals("field") && random.nextInt(6) == 0) {
      int[] known = LONG[random.nextInt(LONG.length)];
      ask("field", new Object[] {known[0], known[1], known[2]});
      ask("way", new Object[] {known[3]});
      ask("set", new Object[] {0, known[4], known[5], known[6], known[7]});
      ask("set", new Object[] {1, known[8], known[9], known[10], known[11]});
      ask("begin", new Object[] {0, 1});
      ask("go", new Object[] {60});
      return;
    }
    if (name.equals("begin") && random.nextInt(5) > 0) {
      ask("begin", new Object[] {positive(), positive()});
      return;
    }
    if (name.equals("read") && random.nextInt(4) > 0) write();
    if (name.equals("solve") && random.nextInt(2) > 0) {
      write();
      ask("read", new Object[0]);
    }
    ask(name, null);
  }

  /** A place of STORE with a VALUE above 0, if a few looks find one. */
  private int positive() {
    int i = random.nextInt(6);
    for (int k = 0; k < 10 && (other.value(i, 4) <= 0 || other.value(i, 5) > 99); k++) i = random.nextInt(6);
    return i;
  }

  private int small() {
    return random.nextInt(9) - 3;
  }

  /** A TEXT on the TAPE: right, nearly right, or what the COURSE has done. */
  private void write() throws Exception {
    StringBuilder made = new StringBuilder();
    int many = random.nextInt(6) == 0 ? 1 + random.nextInt(42) : 1 + random.nextInt(4);
    boolean done = random.nextInt(3) == 0;
    int top = random.nextInt(4) == 0 ? 120 : 3;
    for (int k = 0; k < many; k++) {
      if (k > 0) made.append(random.nextInt(40) == 0 ? "," : ";");
      int a = done ? Math.max(0, other.digit(k + 1, 0)) : random.nextInt(top);
      int b = done ? Math.max(0, other.digit(k + 1, 1)) : random.nextInt(top);
      if (random.nextInt(9) == 0) made.append(' ');
      if (random.nextInt(9) == 0 && !done) made.append("00");
      made.append(a).append(random.nextInt(60) == 0 ? "" : " ").append(b);
      if (done ? other.digit(k + 1, 2) == 1 : random.nextInt(8) == 0) made.append(random.nextInt(3) == 0 ? " t" : "t");
    }
    if (random.nextInt(12) == 0) made.setCharAt(random.nextInt(made.length()), (char) random.nextInt(256));
    if (random.nextInt(12) == 0) made.setLength(random.nextInt(made.length()));
    ask("end", new Object[] {0});
    int length = Math.min(200, made.length());
    while (made.length() < 220) made.append(' ');
    for (int at = 0; at < length; at += 20) {
      Object[] five = new Object[5];
      for (int k = 0; k < 5; k++) {
        int four = 0;
        for (int n = 0; n < 4; n++) four = four << 8 | made.charAt(at + 4 * k + n);
        five[k] = four;
      }
      ask("feed", five);
    }
    if (random.nextInt(3) > 0) ask("end", new Object[] {length});
  }

  private void ask(String name, Object[] given) throws Exception {
    for (Method mine : ours) {
      if (!mine.getName().equals(name)) continue;
      Class<?>[] kinds = mine.getParameterTypes();
      Object[] with = given != null ? given : argumentsOf(name, kinds);
      calls.append(name).append(java.util.Arrays.toString(with)).append('\n');
      Object got = mine.invoke(one, with);
      Object due = Plain.class.getMethod(name, kinds).invoke(other, with);
      if (got.equals(due)) return;
      wrong++;
      System.out.println(calls + "answered " + got + ", due is " + due);
      return;
    }
    throw new IllegalStateException("no method " + name);
  }

  private Object[] argumentsOf(String name, Class<?>[] kinds) {
    Object[] with = new Object[kinds.length];
    for (int k = 0; k < kinds.length; k++) {
      if (kinds[k] == boolean.class) with[k] = random.nextBoolean();
      else if (kinds[k] == long.class) with[k] = bits();
      else with[k] = number(name, k);
    }
    return with;
  }

  private long bits() {
    switch (random.nextInt(8)) {
      case 0: return random.nextLong();
      case 1: return Double.doubleToLongBits(Double.POSITIVE_INFINITY);
      case 2: return Double.doubleToLongBits(-0.0);
      case 3: return Double.doubleToLongBits(random.nextInt(200) * 0.1);
      case 4: return 1L;
      default: return Double.doubleToLongBits((random.nextInt(400) - 200.0) / (1 << random.nextInt(10)));
    }
  }

  private int number(String name, int k) {
    if (random.nextInt(odd) == 0) {
      int[] far = {-1, 6, 7, 60, 61, 100, 150, 151, -150, -151, 200, 999, 1000, -999, -1000, Integer.MIN_VALUE,
        Integer.MIN_VALUE + 1, Integer.MAX_VALUE - 1, Integer.MAX_VALUE};
      return far[random.nextInt(far.length)];
    }
    switch (name) {
      case "field": return random.nextInt(7) - 3;
      case "way": return random.nextInt(2);
      case "set":
        if (k == 0) return random.nextInt(6);
        if (wide && random.nextInt(3) == 0) return random.nextBoolean() ? 150 : -150;
        if (wide || random.nextInt(6) == 0) return random.nextInt(301) - 150;
        return k == 4 ? (random.nextInt(5) == 0 ? -1 : 1) * (1 + random.nextInt(random.nextInt(3) == 0 ? 12 : 2)) : random.nextInt(11) - 4;
      case "combine": return k == 0 ? random.nextInt(4) : random.nextInt(6);
      case "go": return 1 + random.nextInt(random.nextBoolean() ? 60 : 5);
      case "feed": return random.nextInt();
      case "end": return random.nextInt(60);
      case "image": case "back": return random.nextInt(2);
      case "state": case "digit": return k == 0 ? random.nextInt(random.nextInt(3) == 0 ? 61 : 6) : random.nextInt(5);
      case "word": return k == 0 ? random.nextInt(random.nextInt(3) == 0 ? 41 : 4) : random.nextInt(3);
      case "side":
        if (wide) return k == 1 ? random.nextInt(1999) - 999 : 999 - random.nextInt(random.nextBoolean() ? 3 : 999);
        return k == 1 ? random.nextInt(400) - 50 : 1 + random.nextInt(200);
      case "isRelation": return random.nextInt(7) - 3;
      case "relation": return k == 0 ? 1 + random.nextInt(9) : random.nextInt(3);
      case "would": return k < 2 ? random.nextInt(6) : random.nextInt(k);
      case "count": return random.nextInt(20);
      case "begin": case "compare": case "keep": return random.nextInt(6);
      case "equation": case "shared": return random.nextInt(3);
      case "value": case "norm": case "matrix": return k == 0 ? random.nextInt(6) : random.nextInt(name.equals("value") ? 6 : 3);
      case "bounds": case "unit": return random.nextInt(4);
      case "asks": case "outer": case "simplest": case "period": return random.nextInt(2);
      default: return random.nextInt(3);
    }
  }
}
