import java.math.BigDecimal;
import java.math.BigInteger;
import java.math.MathContext;
import java.math.RoundingMode;
import java.util.ArrayList;
import java.util.Arrays;
import java.util.List;

/**
 * The document once more, in another way and with no care for room: numbers without an end, ROOT by its digits, copies
 * of all that stands. RandomRunsTest asks it and the class the same.
 */
public final class Plain {
  private static final int UNTOLD = Integer.MIN_VALUE;
  private static final long NOTHING = Long.MIN_VALUE;
  private static final BigInteger LONGEST = BigInteger.valueOf(Long.MAX_VALUE);
  private static final BigInteger WIDE = BigInteger.valueOf(1000000000L);

  /** a, b, c by one number, in lowest terms. */
  private record Val(BigInteger a, BigInteger b, BigInteger c, BigInteger d) {
    static Val of(BigInteger a, BigInteger b, BigInteger c, BigInteger d) {
      BigInteger g = a.gcd(b).gcd(c).gcd(d);
      if (d.signum() < 0) g = g.negate();
      return new Val(a.divide(g), b.divide(g), c.divide(g), d.divide(g));
    }
    static Val of(long a, long b, long c, long d) {
      return of(big(a), big(b), big(c), big(d));
    }
    boolean canBe() {
      for (BigInteger x : new BigInteger[] {a, b, c, d}) if (x.abs().compareTo(big(150)) > 0) return false;
      return true;
    }
    boolean isZero() {
      return a.signum() == 0 && b.signum() == 0 && c.signum() == 0;
    }
    int number(int what) {
      return new BigInteger[] {a, b, c, d}[what].intValueExact();
    }
  }

  private record Digits(int a, int b, boolean turned) { }

  private static final class Run {
    int way;
    List<Val> us = new ArrayList<>();
    List<Val> vs = new ArrayList<>();
    List<Digits> steps = new ArrayList<>();
    int start = -1;
    int span = -1;

    Run copy() {
      Run other = new Run();
      other.way = way;
      other.us.addAll(us);
      other.vs.addAll(vs);
      other.steps.addAll(steps);
      other.start = start;
      other.span = span;
      return other;
    }
  }

  private static final class All {
    int p = 0;
    int q = 0;
    int r = 2;
    Val[] store = new Val[6];
    Run run = null;
    List<Digits> word = null;

    All copy() {
      All other = new All();
      other.p = p;
      other.q = q;
      other.r = r;
      other.store = store.clone();
      other.run = run == null ? null : run.copy();
      other.word = word;
      return other;
    }
  }

  private All all = new All();
  private int term = 0;
  private byte[] tape = new byte[0];
  private int fault = -1;
  private int status = 0;
  private final int[] refused = new int[7];
  private final List<All> past = new ArrayList<>();
  private final List<Integer> acts = new ArrayList<>();
  private final All[] images = new All[2];
  private BigDecimal root;
  private int rootP = 9;
  private int rootQ = 9;
  private int rootR = 9;

  public Plain() {
    Arrays.fill(all.store, Val.of(0, 0, 0, 1));
  }

  private static BigInteger big(long x) {
    return BigInteger.valueOf(x);
  }

  // ---- the FIELD ----

  private BigDecimal root() {
    if (rootP == all.p && rootQ == all.q && rootR == all.r) return root;
    rootP = all.p;
    rootQ = all.q;
    rootR = all.r;
    BigDecimal low = BigDecimal.valueOf(-5);
    BigDecimal high = BigDecimal.valueOf(5);
    for (int k = 0; k < 300; k++) {
      BigDecimal x = low.add(high).divide(BigDecimal.valueOf(2));
      BigDecimal y = x.multiply(x).multiply(x).subtract(x.multiply(x).multiply(BigDecimal.valueOf(all.p)))
          .subtract(x.multiply(BigDecimal.valueOf(all.q))).subtract(BigDecimal.valueOf(all.r));
      if (y.signum() > 0) high = x;
      else low = x;
      low = low.round(new MathContext(100, RoundingMode.FLOOR));
      high = high.round(new MathContext(100, RoundingMode.CEILING));
    }
    root = low;
    return root;
  }

  private BigDecimal near(Val x) {
    BigDecimal sum = new BigDecimal(x.a).add(new BigDecimal(x.b).multiply(root()))
        .add(new BigDecimal(x.c).multiply(root()).multiply(root()));
    return sum.divide(new BigDecimal(x.d), new MathContext(80));
  }

  private int sign(Val x) {
    return x.isZero() ? 0 : near(x).signum();
  }

  private int floor(Val x) {
    if (x.b.signum() == 0 && x.c.signum() == 0) {
      BigInteger[] both = x.a.divideAndRemainder(x.d);
      return both[0].intValue() - (both[1].signum() < 0 ? 1 : 0);
    }
    return near(x).setScale(0, RoundingMode.FLOOR).intValueExact();
  }

  private Val plus(Val x, Val y) {
    return Val.of(x.a.multiply(y.d).add(y.a.multiply(x.d)), x.b.multiply(y.d).add(y.b.multiply(x.d)),
        x.c.multiply(y.d).add(y.c.multiply(x.d)), x.d.multiply(y.d));
  }

  private Val minus(Val x, Val y) {
    return plus(x, Val.of(y.a.negate(), y.b.negate(), y.c.negate(), y.d));
  }

  private Val times(Val x, Val y) {
    BigInteger[] left = {x.a, x.b, x.c};
    BigInteger[] right = {y.a, y.b, y.c};
    BigInteger[] powers = new BigInteger[5];
    Arrays.fill(powers, BigInteger.ZERO);
    for (int i = 0; i < 3; i++) for (int j = 0; j < 3; j++) powers[i + j] = powers[i + j].add(left[i].multiply(right[j]));
    for (int n = 4; n >= 3; n--) {
      powers[n - 1] = powers[n - 1].add(powers[n].multiply(big(all.p)));
      powers[n - 2] = powers[n - 2].add(powers[n].multiply(big(all.q)));
      powers[n - 3] = powers[n - 3].add(powers[n].multiply(big(all.r)));
    }
    return Val.of(powers[0], powers[1], powers[2], x.d.multiply(y.d));
  }

  /** By Cramer's rule: the z by which z times y is x. */
  private Val by(Val x, Val y) {
    BigInteger[][] rows = rows(y);
    BigInteger[] goal = {x.a, x.b, x.c};
    BigInteger whole = determinant(rows);
    BigInteger[] found = new BigInteger[3];
    for (int k = 0; k < 3; k++) {
      BigInteger[][] other = new BigInteger[3][];
      for (int i = 0; i < 3; i++) other[i] = i == k ? goal : rows[i];
      found[k] = determinant(other).multiply(y.d);
    }
    return Val.of(found[0], found[1], found[2], whole.multiply(x.d));
  }

  private BigInteger[][] rows(Val y) {
    BigInteger[][] rows = new BigInteger[3][];
    Val now = Val.of(y.a, y.b, y.c, BigInteger.ONE);
    for (int k = 0; k < 3; k++) {
      rows[k] = new BigInteger[] {now.a, now.b, now.c};
      now = times(now, Val.of(0, 1, 0, 1));
    }
    return rows;
  }

  private static BigInteger determinant(BigInteger[][] m) {
    BigInteger sum = BigInteger.ZERO;
    int[][] orders = {{0, 1, 2, 1}, {1, 2, 0, 1}, {2, 0, 1, 1}, {0, 2, 1, -1}, {2, 1, 0, -1}, {1, 0, 2, -1}};
    for (int[] o : orders) sum = sum.add(m[0][o[0]].multiply(m[1][o[1]]).multiply(m[2][o[2]]).multiply(big(o[3])));
    return sum;
  }

  private static BigInteger minors(BigInteger[][] m) {
    BigInteger sum = BigInteger.ZERO;
    for (int i = 0; i < 3; i++) {
      for (int j = i + 1; j < 3; j++) {
        sum = sum.add(m[i][i].multiply(m[j][j]).subtract(m[i][j].multiply(m[j][i])));
      }
    }
    return sum;
  }

  private static BigInteger diagonal(BigInteger[][] m) {
    return m[0][0].add(m[1][1]).add(m[2][2]);
  }

  private static boolean canBeField(int p, int q, int r) {
    for (int x = -30; x <= 30; x++) if (x * x * x - p * x * x - q * x - r == 0) return false;
    return discriminant(p, q, r) < 0;
  }

  private static int discriminant(int p, int q, int r) {
    return p * p * q * q + 4 * q * q * q - 4 * p * p * p * r - 27 * r * r - 18 * p * q * r;
  }

  // ---- the COURSE ----

  private boolean canBegin(Val u, Val v) {
    return sign(u) > 0 && sign(v) > 0 && floor(u) <= 99 && floor(v) <= 99;
  }

  private static Run open(Val u, Val v, int way) {
    Run run = new Run();
    run.way = way;
    run.us.add(u);
    run.vs.add(v);
    return run;
  }

  private boolean ends(Run run) {
    Val u = run.us.get(run.steps.size());
    Val v = run.vs.get(run.steps.size());
    Val f = minus(u, Val.of(floor(u), 0, 0, 1));
    Val g = minus(v, Val.of(floor(v), 0, 0, 1));
    if (run.way == 1 && sign(minus(f, g)) < 0) return g.isZero();
    return f.isZero();
  }

  /** 0 and it is done, or by what it is REFUSED. */
  private int doStep(Run run) {
    if (run == null || ends(run)) return -3;
    int n = run.steps.size();
    if (n == 60) return -5;
    Val u = run.us.get(n);
    Val v = run.vs.get(n);
    int a = floor(u);
    int b = floor(v);
    Val f = minus(u, Val.of(a, 0, 0, 1));
    Val g = minus(v, Val.of(b, 0, 0, 1));
    boolean turned = run.way == 1 && sign(minus(f, g)) < 0;
    Val low = turned ? g : f;
    Val high = turned ? f : g;
    Val nextU = by(high, low);
    Val nextV = by(Val.of(1, 0, 0, 1), low);
    if (!nextU.canBe() || !nextV.canBe() || floor(nextU) > 99 || floor(nextV) > 99) return -5;
    List<Digits> longer = new ArrayList<>(run.steps);
    longer.add(new Digits(a, b, turned));
    for (BigInteger[] row : squares(longer, 0, n + 1)) for (BigInteger x : row) if (x.compareTo(LONGEST) > 0) return -5;
    run.steps.add(new Digits(a, b, turned));
    run.us.add(nextU);
    run.vs.add(nextV);
    for (int k = 0; k <= n && run.start < 0; k++) {
      if (run.us.get(k).equals(nextU) && run.vs.get(k).equals(nextV)) {
        run.start = k;
        run.span = n + 1 - k;
      }
    }
    return 0;
  }

  private static BigInteger[][] squares(List<Digits> digits, int from, int to) {
    BigInteger[][] m = new BigInteger[3][3];
    for (int i = 0; i < 3; i++) for (int j = 0; j < 3; j++) m[i][j] = big(i == j ? 1 : 0);
    for (int k = from; k < to; k++) {
      Digits now = digits.get(k);
      long[][] s = now.turned ? new long[][] {{0, 0, 1}, {0, 1, now.a}, {1, 0, now.b}}
          : new long[][] {{0, 0, 1}, {1, 0, now.a}, {0, 1, now.b}};
      BigInteger[][] next = new BigInteger[3][3];
      for (int i = 0; i < 3; i++) {
        for (int j = 0; j < 3; j++) {
          next[i][j] = BigInteger.ZERO;
          for (int n = 0; n < 3; n++) next[i][j] = next[i][j].add(m[i][n].multiply(big(s[n][j])));
        }
      }
      m = next;
    }
    return m;
  }

  private BigInteger[][] productOf() {
    return squares(all.run.steps, 0, all.run.steps.size());
  }

  private BigInteger[][] roundOf() {
    if (all.run == null || all.run.start < 0) return null;
    return squares(all.run.steps, all.run.start, all.run.start + all.run.span);
  }

  private static boolean anyAbove(BigInteger[][] m, BigInteger most) {
    for (BigInteger[] row : m) for (BigInteger x : row) if (x.compareTo(most) > 0) return true;
    return false;
  }

  // ---- what changes the object ----

  private int refuse(int code) {
    status = code;
    refused[-code]++;
    return code;
  }

  private int pass(int answer) {
    status = 0;
    return answer;
  }

  private void note(int act) {
    past.add(all.copy());
    acts.add(act);
    if (past.size() > 8) {
      past.remove(0);
      acts.remove(0);
    }
  }

  private static boolean stored(int... places) {
    for (int i : places) if (i < 0 || i > 5) return false;
    return true;
  }

  public int field(int p, int q, int r) {
    for (int x : new int[] {p, q, r}) if (x < -3 || x > 3) return refuse(-1);
    if (!canBeField(p, q, r)) return refuse(-4);
    note(0);
    renew(p, q, r);
    return pass(discriminant(p, q, r));
  }

  private void renew(int p, int q, int r) {
    all.p = p;
    all.q = q;
    all.r = r;
    Arrays.fill(all.store, Val.of(0, 0, 0, 1));
    all.run = null;
  }

  public int way(int v) {
    if (v != 0 && v != 1) return refuse(-1);
    int was = term;
    term = v;
    return pass(was);
  }

  public int set(int i, int a, int b, int c, int d) {
    for (int x : new int[] {a, b, c, d}) if (x < -150 || x > 150) return refuse(-1);
    if (d == 0) return refuse(-1);
    if (!stored(i)) return refuse(-2);
    note(1);
    all.store[i] = Val.of(a, b, c, d);
    return pass(floor(all.store[i]));
  }

  public int measure(int i, long bits) {
    if (!stored(i)) return refuse(-2);
    double x = Double.longBitsToDouble(bits);
    if (Double.isNaN(x) || Double.isInfinite(x)) return refuse(-5);
    BigDecimal exact = new BigDecimal(x);
    BigInteger lower = BigInteger.TEN.pow(Math.max(0, exact.scale()));
    Val made = Val.of(exact.multiply(new BigDecimal(lower)).toBigIntegerExact(), BigInteger.ZERO, BigInteger.ZERO, lower);
    if (!made.canBe()) return refuse(-5);
    note(2);
    all.store[i] = made;
    return pass(floor(made));
  }

  public int combine(int how, int i, int j, int k) {
    if (how < 0 || how > 3) return refuse(-1);
    if (!stored(i, j, k)) return refuse(-2);
    Val x = all.store[i];
    Val y = all.store[j];
    if (how == 3 && y.isZero()) return refuse(-4);
    Val made = how == 0 ? plus(x, y) : how == 1 ? minus(x, y) : how == 2 ? times(x, y) : by(x, y);
    if (!made.canBe()) return refuse(-5);
    note(3);
    all.store[k] = made;
    return pass(floor(made));
  }

  public int begin(int i, int j) {
    if (!stored(i, j)) return refuse(-2);
    if (!canBegin(all.store[i], all.store[j])) return refuse(-4);
    note(4);
    all.run = open(all.store[i], all.store[j], term);
    return pass(floor(all.store[i]));
  }

  public int step() {
    All was = all.copy();
    int refusal = doStep(all.run);
    if (refusal != 0) return refuse(refusal);
    All now = all;
    all = was;
    note(5);
    all = now;
    return pass(all.run.steps.size());
  }

  public int go(int n) {
    if (n < 1 || n > 60) return refuse(-1);
    All was = all.copy();
    int done = 0;
    while (done < n) {
      boolean found = all.run != null && all.run.start >= 0;
      int refusal = doStep(all.run);
      if (refusal != 0 && done == 0) return refuse(refusal);
      if (refusal != 0) break;
      done++;
      if (!found && all.run.start >= 0) break;
    }
    All now = all;
    all = was;
    note(6);
    all = now;
    return pass(done);
  }

  public int keep(int i, int j) {
    if (!stored(i, j)) return refuse(-2);
    if (all.run == null) return refuse(-3);
    note(7);
    int n = all.run.steps.size();
    all.store[i] = all.run.us.get(n);
    all.store[j] = all.run.vs.get(n);
    return pass(floor(all.store[j]));
  }

  public int feed(int a, int b, int c, int d, int e) {
    if (tape.length + 20 > 200) return -1;
    int at = tape.length;
    tape = Arrays.copyOf(tape, at + 20);
    for (int x : new int[] {a, b, c, d, e}) {
      for (int k = 3; k >= 0; k--) tape[at++] = (byte) (x >>> (8 * k));
    }
    return tape.length;
  }

  public int end(int n) {
    if (n < 0 || n > tape.length) return -1;
    tape = Arrays.copyOf(tape, n);
    return n;
  }

  public int read() {
    // A list of TOKENS first: each with its place; behind the last one the TAPE's length.
    List<String> tokens = new ArrayList<>();
    List<Integer> places = new ArrayList<>();
    for (int at = 0; at < tape.length; ) {
      int from = at;
      char c = (char) (tape[at] & 255);
      if (Character.isDigit(c) && c < 128) {
        while (at < tape.length && tape[at] >= '0' && tape[at] <= '9') at++;
      } else {
        at++;
      }
      if (c == ' ') continue;
      tokens.add(new String(tape, from, at - from, java.nio.charset.StandardCharsets.ISO_8859_1));
      places.add(from);
    }
    places.add(tape.length);
    tape = new byte[0];
    List<Digits> made = new ArrayList<>();
    int n = 0;
    // What may come: 0 a, 1 b, 2 "t" or ";" or the end, 3 ";" or the end.
    int due = 0;
    boolean right = true;
    int a = 0;
    int b = 0;
    for (; n < tokens.size() && right; n++) {
      String token = tokens.get(n);
      boolean isNumber = token.matches("0*[0-9]{1,2}");
      if (due == 0 && made.size() == 40) right = false;
      else if (due == 0 && isNumber) { a = Integer.parseInt(token); due = 1; }
      else if (due == 1 && isNumber) { b = Integer.parseInt(token); due = 2; made.add(new Digits(a, b, false)); }
      else if (due == 2 && token.equals("t")) { made.set(made.size() - 1, new Digits(a, b, true)); due = 3; }
      else if (due >= 2 && token.equals(";")) due = 0;
      else right = false;
      if (!right) n--;
    }
    if (!right || due < 2) {
      fault = places.get(n);
      return refuse(-6);
    }
    fault = -1;
    note(8);
    all.word = made;
    return pass(made.size());
  }

  public int solve() {
    if (all.word == null) return refuse(-4);
    BigInteger[][] m = squares(all.word, 0, all.word.size());
    if (anyAbove(m, big(99))) return refuse(-5);
    int p = diagonal(m).intValueExact();
    int q = -minors(m).intValueExact();
    int r = determinant(m).intValueExact();
    if (Math.abs(p) > 3 || Math.abs(q) > 3 || Math.abs(r) > 3 || !canBeField(p, q, r)) return refuse(-5);
    All was = all;
    all = all.copy();
    renew(p, q, r);
    // The second and third rows: M10 + (M11 - ROOT) u + M12 v = 0, M20 + M21 u + (M22 - ROOT) v = 0.
    Val low = minus(times(shifted(m, 1), shifted(m, 2)), times(cell(m, 1, 2), cell(m, 2, 1)));
    Val u = null;
    Val v = null;
    if (!low.isZero()) {
      u = by(minus(times(cell(m, 1, 2), cell(m, 2, 0)), times(cell(m, 1, 0), shifted(m, 2))), low);
      v = by(minus(times(cell(m, 2, 1), cell(m, 1, 0)), times(cell(m, 2, 0), shifted(m, 1))), low);
    }
    if (u == null || !u.canBe() || !v.canBe()) {
      all = was;
      return refuse(-5);
    }
    All now = all;
    all = was;
    note(9);
    all = now;
    all.store[0] = u;
    all.store[1] = v;
    return pass(discriminant(p, q, r));
  }

  private static Val cell(BigInteger[][] m, int i, int j) {
    return Val.of(m[i][j], BigInteger.ZERO, BigInteger.ZERO, BigInteger.ONE);
  }

  private static Val shifted(BigInteger[][] m, int i) {
    return Val.of(m[i][i], big(-1), BigInteger.ZERO, BigInteger.ONE);
  }

  public int fault() {
    return fault;
  }

  public int undo() {
    if (past.isEmpty()) return refuse(-4);
    all = past.remove(past.size() - 1);
    return pass(acts.remove(acts.size() - 1));
  }

  public int image(int k) {
    if (k != 0 && k != 1) return refuse(-1);
    images[k] = all.copy();
    return pass(all.run == null ? -1 : all.run.steps.size());
  }

  public int back(int k) {
    if (k != 0 && k != 1) return refuse(-1);
    if (images[k] == null) return refuse(-2);
    all = images[k].copy();
    past.clear();
    acts.clear();
    return pass(all.run == null ? -1 : all.run.steps.size());
  }

  // ---- what is told ----

  public int value(int i, int what) {
    if (!stored(i) || what < 0 || what > 5) return UNTOLD;
    if (what == 4) return sign(all.store[i]);
    return what == 5 ? floor(all.store[i]) : all.store[i].number(what);
  }

  public long matrix(int i, int k, int j) {
    if (!stored(i) || k < 0 || k > 2 || j < 0 || j > 2) return NOTHING;
    return rows(all.store[i])[k][j].longValueExact();
  }

  public long norm(int i, int which, int what) {
    if (!stored(i) || which < 0 || which > 2 || what < 0 || what > 1) return NOTHING;
    Val x = all.store[i];
    BigInteger[][] m = rows(x);
    BigInteger upper = which == 0 ? determinant(m) : which == 1 ? diagonal(m) : minors(m);
    BigInteger lower = x.d.pow(which == 0 ? 3 : which == 1 ? 1 : 2);
    return (what == 0 ? upper : lower).divide(upper.gcd(lower)).longValueExact();
  }

  public int compare(int i, int j) {
    if (!stored(i, j)) return -2;
    return sign(minus(all.store[i], all.store[j]));
  }

  public int state(int k, boolean other, int what) {
    if (all.run == null || k < 0 || k > all.run.steps.size() || what < 0 || what > 4) return UNTOLD;
    Val x = (other ? all.run.vs : all.run.us).get(k);
    return what == 4 ? floor(x) : x.number(what);
  }

  public int digit(int k, int what) {
    if (all.run == null) return -1;
    return part(all.run.steps, k - 1, what);
  }

  private static int part(List<Digits> digits, int k, int what) {
    if (digits == null || k < 0 || k >= digits.size() || what < 0 || what > 2) return -1;
    Digits now = digits.get(k);
    return what == 0 ? now.a : what == 1 ? now.b : now.turned ? 1 : 0;
  }

  public long product(int i, int j) {
    if (all.run == null || i < 0 || i > 2 || j < 0 || j > 2) return NOTHING;
    return productOf()[i][j].longValueExact();
  }

  public int determinant() {
    return all.run == null ? 0 : determinant(productOf()).intValueExact();
  }

  private static int order(BigInteger[] x, BigInteger[] y) {
    return x[0].multiply(y[1]).compareTo(y[0].multiply(x[1]));
  }

  private static BigInteger[] lowest(BigInteger x, BigInteger y) {
    BigInteger g = x.gcd(y);
    return new BigInteger[] {x.divide(g), y.divide(g)};
  }

  /** FRACTIONS of u or v; null, if a lower number is 0. */
  private BigInteger[][] fractions(boolean other) {
    if (all.run == null) return null;
    BigInteger[][] m = productOf();
    BigInteger[][] found = new BigInteger[3][];
    for (int j = 0; j < 3; j++) {
      if (m[0][j].signum() <= 0) return null;
      found[j] = lowest(m[other ? 2 : 1][j], m[0][j]);
    }
    return found;
  }

  private BigInteger[] boundOf(boolean other, int which) {
    BigInteger[][] f = fractions(other);
    return f == null ? null : f[outer(other, which)];
  }

  public long bounds(boolean other, int what) {
    if (what < 0 || what > 3 || fractions(other) == null) return NOTHING;
    return boundOf(other, what / 2)[what % 2].longValueExact();
  }

  public int outer(boolean other, int what) {
    BigInteger[][] f = fractions(other);
    if (f == null || what < 0 || what > 1) return -1;
    int found = 0;
    for (int j = 1; j < 3; j++) {
      int order = order(f[j], f[found]);
      if (what == 0 ? order < 0 : order > 0) found = j;
    }
    return found;
  }

  public long inverse(int i, int j) {
    if (all.run == null || i < 0 || i > 2 || j < 0 || j > 2) return NOTHING;
    BigInteger[][] m = productOf();
    if (anyAbove(m, WIDE)) return NOTHING;
    // By Cramer's rule: column j of the inverse solves M x = column j of 1.
    BigInteger[][] other = new BigInteger[3][3];
    for (int k = 0; k < 3; k++) for (int n = 0; n < 3; n++) other[k][n] = n == i ? big(k == j ? 1 : 0) : m[k][n];
    return determinant(other).multiply(determinant(m)).longValueExact();
  }

  public int side(boolean other, int x, int y) {
    if (all.run == null || x < -999 || x > 999 || y < 1 || y > 999) return -2;
    return sign(minus((other ? all.run.vs : all.run.us).get(0), Val.of(x, 0, 0, y)));
  }

  private static BigInteger ceiling(BigInteger x, BigInteger y) {
    return x.add(y).subtract(BigInteger.ONE).divide(y);
  }

  public long simplest(boolean other, int what) {
    if (what < 0 || what > 1 || fractions(other) == null) return NOTHING;
    BigInteger[] least = boundOf(other, 0);
    BigInteger[] greatest = boundOf(other, 1);
    if (least[1].min(greatest[1]).compareTo(big(20000)) <= 0) {
      for (long q = 1; ; q++) {
        BigInteger x = ceiling(least[0].multiply(big(q)), least[1]);
        if (order(new BigInteger[] {x, big(q)}, greatest) <= 0) return what == 0 ? x.longValueExact() : q;
      }
    }
    return down(least, greatest)[what].longValueExact();
  }

  /** A walk down the tree of fractions (Stern's), by leaps. */
  private static BigInteger[] down(BigInteger[] least, BigInteger[] greatest) {
    BigInteger[] left = {BigInteger.ZERO, BigInteger.ONE};
    BigInteger[] right = {BigInteger.ONE, BigInteger.ZERO};
    if (least[0].signum() == 0) return left;
    while (true) {
      BigInteger[] middle = {left[0].add(right[0]), left[1].add(right[1])};
      if (order(middle, least) < 0) {
        // The least number of leaps n by which left and n times right is not below the least.
        BigInteger up = least[0].multiply(left[1]).subtract(left[0].multiply(least[1]));
        BigInteger way = right[0].multiply(least[1]).subtract(least[0].multiply(right[1]));
        BigInteger n = ceiling(up, way).subtract(BigInteger.ONE).max(BigInteger.ONE);
        left = new BigInteger[] {left[0].add(n.multiply(right[0])), left[1].add(n.multiply(right[1]))};
      } else if (order(middle, greatest) > 0) {
        BigInteger up = right[0].multiply(greatest[1]).subtract(greatest[0].multiply(right[1]));
        BigInteger way = greatest[0].multiply(left[1]).subtract(left[0].multiply(greatest[1]));
        BigInteger n = ceiling(up, way).subtract(BigInteger.ONE).max(BigInteger.ONE);
        right = new BigInteger[] {right[0].add(n.multiply(left[0])), right[1].add(n.multiply(left[1]))};
      } else {
        return middle;
      }
    }
  }

  public long shared(int what) {
    if (what < 0 || what > 2 || fractions(false) == null) return NOTHING;
    BigInteger[][] ends = {boundOf(false, 0), boundOf(false, 1), boundOf(true, 0), boundOf(true, 1)};
    for (BigInteger[] one : ends) for (BigInteger x : one) if (x.compareTo(WIDE) > 0) return NOTHING;
    for (long q = 1; q <= 9999; q++) {
      BigInteger x = ceiling(ends[0][0].multiply(big(q)), ends[0][1]);
      if (order(new BigInteger[] {x, big(q)}, ends[1]) > 0) continue;
      BigInteger y = ceiling(ends[2][0].multiply(big(q)), ends[2][1]);
      if (order(new BigInteger[] {y, big(q)}, ends[3]) > 0) continue;
      return what == 0 ? q : (what == 1 ? x : y).longValueExact();
    }
    return NOTHING;
  }

  public int period(int what) {
    if (all.run == null || what < 0 || what > 1) return -1;
    return what == 0 ? all.run.start : all.run.span;
  }

  public long round(int i, int j) {
    BigInteger[][] m = roundOf();
    if (m == null || i < 0 || i > 2 || j < 0 || j > 2 || m[i][j].compareTo(LONGEST) > 0) return NOTHING;
    return m[i][j].longValueExact();
  }

  public int unit(int what) {
    BigInteger[][] m = roundOf();
    if (m == null || what < 0 || what > 3 || anyAbove(m, LONGEST)) return UNTOLD;
    Val u = all.run.us.get(all.run.start);
    Val v = all.run.vs.get(all.run.start);
    Val sum = plus(cell(m, 0, 0), plus(times(cell(m, 0, 1), u), times(cell(m, 0, 2), v)));
    return sum.canBe() ? sum.number(what) : UNTOLD;
  }

  public long equation(int what) {
    BigInteger[][] m = roundOf();
    if (m == null || what < 0 || what > 2 || anyAbove(m, WIDE)) return NOTHING;
    return (what == 0 ? diagonal(m) : what == 1 ? minors(m) : determinant(m)).longValueExact();
  }

  public boolean isRelation(int k, int l, int m) {
    for (int x : new int[] {k, l, m}) if (x < -999 || x > 999) return false;
    return all.run != null && relates(k, l, m);
  }

  private boolean relates(int k, int l, int m) {
    Val u = all.run.us.get(0);
    Val v = all.run.vs.get(0);
    return plus(Val.of(k, 0, 0, 1), plus(times(Val.of(l, 0, 0, 1), u), times(Val.of(m, 0, 0, 1), v))).isZero();
  }

  public int relation(int n, int what) {
    if (all.run == null || n < 1 || n > 9 || what < 0 || what > 2) return UNTOLD;
    for (int sum = 1; sum <= 3 * n; sum++) {
      for (int k = -n; k <= n; k++) {
        for (int l = -n; l <= n; l++) {
          int rest = sum - Math.abs(k) - Math.abs(l);
          if (rest < 0 || rest > n) continue;
          for (int m : rest == 0 ? new int[] {0} : new int[] {-rest, rest}) {
            if (relates(k, l, m)) return what == 0 ? k : what == 1 ? l : m;
          }
        }
      }
    }
    return UNTOLD;
  }

  public int word(int k, int what) {
    return part(all.word, k, what);
  }

  public long spelt(int i, int j) {
    if (all.word == null || i < 0 || i > 2 || j < 0 || j > 2) return NOTHING;
    BigInteger x = squares(all.word, 0, all.word.size())[i][j];
    return x.compareTo(LONGEST) > 0 ? NOTHING : x.longValueExact();
  }

  public int asks(int what) {
    if (all.word == null || what < 0 || what > 1) return -1;
    if (what == 0) return isProper(all.word) ? 1 : 0;
    int like = 0;
    while (all.run != null && like < all.word.size() && like < all.run.steps.size()
        && all.word.get(like).equals(all.run.steps.get(like))) like++;
    return like;
  }

  private static boolean isProper(List<Digits> word) {
    boolean proper = true;
    for (Digits now : word) proper &= !now.turned;
    for (Digits now : word.subList(1, word.size())) proper &= now.b >= 1 && now.a <= now.b;
    for (int k = 1; k + 1 < word.size(); k++) {
      if (word.get(k).a == word.get(k).b) proper &= word.get(k + 1).a >= 1;
    }
    return proper;
  }

  public int would(int i, int j, int way, int what) {
    if (!stored(i, j) || way < 0 || way > 1 || what < 0 || what > 2) return UNTOLD;
    if (!canBegin(all.store[i], all.store[j])) return UNTOLD;
    Run run = open(all.store[i], all.store[j], way);
    int over = 0;
    while (over == 0) {
      if (ends(run)) over = 1;
      else if (run.steps.size() == 60) break;
      else if (doStep(run) != 0) over = 3;
      else if (run.start >= 0) over = 2;
    }
    return what == 0 ? run.steps.size() : what == 1 ? over : run.span;
  }

  public int count(int what) {
    boolean on = all.run != null;
    int turned = 0;
    if (on) for (Digits now : all.run.steps) turned += now.turned ? 1 : 0;
    int[] first = {all.p, all.q, all.r, discriminant(all.p, all.q, all.r), term, on ? 1 : 0, on ? all.run.way : 0,
        on ? all.run.steps.size() : 0, on && ends(all.run) ? 1 : 0, turned, all.word == null ? 0 : all.word.size(),
        past.size(), tape.length};
    if (what >= 0 && what <= 12) return first[what];
    return what >= 13 && what <= 18 ? refused[what - 12] : UNTOLD;
  }

  public int status() {
    return status;
  }
}
