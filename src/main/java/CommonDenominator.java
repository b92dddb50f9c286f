/** Two numbers of a cubic field approached by fractions with one denominator; README.md tells how to use it. */
public final class CommonDenominator {
  public static final int NONE = -1;
  public static final long NOTHING = Long.MIN_VALUE;

  /** Told where any int may be an answer: there is none. */
  private static final int UNTOLD = -2147483648;
  private static final long LONGEST = 9223372036854775807L;
  /** Numbers up to this one can be multiplied by one another within a long, three such products together too. */
  private static final long WIDE = 1000000000L;

  private static final int BAD_NUMBER = -1;
  private static final int NO_PLACE = -2;
  private static final int NO_COURSE = -3;
  private static final int NOT_NOW = -4;
  private static final int NO_RESULT = -5;
  private static final int NO_TEXT = -6;

  private static final int ACT_FIELD = 0;
  private static final int ACT_SET = 1;
  private static final int ACT_MEASURE = 2;
  private static final int ACT_COMBINE = 3;
  private static final int ACT_BEGIN = 4;
  private static final int ACT_STEP = 5;
  private static final int ACT_GO = 6;
  private static final int ACT_KEEP = 7;
  private static final int ACT_READ = 8;
  private static final int ACT_SOLVE = 9;

  private static final int STORED = 6;
  private static final int LARGEST = 150;
  private static final int MOST_STEPS = 60;
  private static final int MOST_FLOOR = 99;
  private static final int MOST_DIGITS = 40;
  private static final int MOST_BYTES = 200;
  private static final int MOST_ACTS = 8;
  private static final int IMAGES = 2;
  private static final int MOST_SIDE = 999;
  private static final int MOST_SHARED = 9999;

  private final Field field = new Field();
  private final Value[] store = new Value[STORED];
  private final Course course = new Course();
  private final Word word = new Word();
  private final Tape tape = new Tape();
  private final Past past = new Past();
  private final Told told = new Told();
  private int way = 0;

  // What a call works with, made once: nothing is made by any later call.
  private final Course paper = new Course();
  private final Field drawn = new Field();
  private final Square square = new Square();
  private final Bounds between = new Bounds();
  private final Value first = new Value();
  private final Value second = new Value();

  public CommonDenominator() {
    for (int i = 0; i < STORED; i++) store[i] = new Value();
  }

  // ---- what changes the object ----

  public int field(int p, int q, int r) {
    if (!Field.inRange(p, q, r)) return told.refuse(BAD_NUMBER);
    if (!Field.canBe(p, q, r)) return told.refuse(NOT_NOW);
    note(ACT_FIELD);
    renew(p, q, r);
    return told.pass(field.discriminant());
  }

  public int way(int v) {
    if (v < 0 || v > 1) return told.refuse(BAD_NUMBER);
    int was = way;
    way = v;
    return told.pass(was);
  }

  public int set(int i, int a, int b, int c, int d) {
    if (!isWithin(a, LARGEST) || !isWithin(b, LARGEST) || !isWithin(c, LARGEST)) return told.refuse(BAD_NUMBER);
    if (!isWithin(d, LARGEST) || d == 0) return told.refuse(BAD_NUMBER);
    if (!isStored(i)) return told.refuse(NO_PLACE);
    note(ACT_SET);
    store[i].put(a, b, c, d);
    return told.pass(field.floor(store[i]));
  }

  public int measure(int i, long bits) {
    if (!isStored(i)) return told.refuse(NO_PLACE);
    if (!first.putDouble(bits)) return told.refuse(NO_RESULT);
    note(ACT_MEASURE);
    store[i].copy(first);
    return told.pass(field.floor(store[i]));
  }

  public int combine(int how, int i, int j, int k) {
    if (how < 0 || how > 3) return told.refuse(BAD_NUMBER);
    if (!isStored(i) || !isStored(j) || !isStored(k)) return told.refuse(NO_PLACE);
    if (how == 3 && store[j].isZero()) return told.refuse(NOT_NOW);
    join(how, store[i], store[j]);
    if (!first.canBe()) return told.refuse(NO_RESULT);
    note(ACT_COMBINE);
    store[k].copy(first);
    return told.pass(field.floor(store[k]));
  }

  public int begin(int i, int j) {
    if (!isStored(i) || !isStored(j)) return told.refuse(NO_PLACE);
    if (!Course.canOpen(field, store[i], store[j])) return told.refuse(NOT_NOW);
    note(ACT_BEGIN);
    course.open(field, store[i], store[j], way);
    return told.pass(course.floorAt(0, 0));
  }

  public int step() {
    int refusal = course.prepare(field);
    if (refusal != 0) return told.refuse(refusal);
    note(ACT_STEP);
    course.take();
    return told.pass(course.steps);
  }

  public int go(int n) {
    if (n < 1 || n > MOST_STEPS) return told.refuse(BAD_NUMBER);
    int refusal = course.prepare(field);
    if (refusal != 0) return told.refuse(refusal);
    note(ACT_GO);
    boolean found = course.hasPeriod();
    int done = 0;
    for (int k = 0; k < n; k++) {
      if (k > 0 && course.prepare(field) != 0) break;
      course.take();
      done++;
      if (!found && course.hasPeriod()) break;
    }
    return told.pass(done);
  }

  public int keep(int i, int j) {
    if (!isStored(i) || !isStored(j)) return told.refuse(NO_PLACE);
    if (!course.isOn()) return told.refuse(NO_COURSE);
    note(ACT_KEEP);
    course.lay(course.steps, 0, store[i]);
    course.lay(course.steps, 1, store[j]);
    return told.pass(course.floorAt(course.steps, 1));
  }

  public int feed(int a, int b, int c, int d, int e) {
    if (!tape.hasRoom(20)) return NONE;
    tape.add(a);
    tape.add(b);
    tape.add(c);
    tape.add(d);
    tape.add(e);
    return tape.length;
  }

  public int end(int n) {
    return tape.cut(n) ? n : NONE;
  }

  public int read() {
    boolean wellWritten = tape.parse();
    tape.cut(0);
    if (!wellWritten) return told.refuse(NO_TEXT);
    note(ACT_READ);
    word.copy(tape.draft);
    return told.pass(word.length);
  }

  public int solve() {
    if (word.length == 0) return told.refuse(NOT_NOW);
    word.spell(square);
    if (!solved()) return told.refuse(NO_RESULT);
    note(ACT_SOLVE);
    renew(drawn.p, drawn.q, drawn.r);
    store[0].copy(first);
    store[1].copy(second);
    return told.pass(field.discriminant());
  }

  public int fault() {
    return tape.fault;
  }

  public int undo() {
    if (past.count == 0) return told.refuse(NOT_NOW);
    past.newest().restore(field, store, word, course);
    return told.pass(past.drop());
  }

  public int image(int k) {
    if (k < 0 || k >= IMAGES) return told.refuse(BAD_NUMBER);
    past.images[k].take(field, store, word, course);
    past.kept[k] = true;
    return told.pass(stepsOrNone());
  }

  public int back(int k) {
    if (k < 0 || k >= IMAGES) return told.refuse(BAD_NUMBER);
    if (!past.kept[k]) return told.refuse(NO_PLACE);
    past.images[k].restore(field, store, word, course);
    past.forget();
    return told.pass(stepsOrNone());
  }

  // ---- what is told of VALUES ----

  public int value(int i, int what) {
    if (!isStored(i)) return UNTOLD;
    if (what == 4) return field.sign(store[i]);
    if (what == 5) return field.floor(store[i]);
    return store[i].number(what);
  }

  public long matrix(int i, int k, int j) {
    if (!isStored(i) || !Square.has(k, j)) return NOTHING;
    field.layRows(store[i].a, store[i].b, store[i].c);
    return field.rows.cell(k, j);
  }

  public long norm(int i, int which, int what) {
    if (!isStored(i) || which < 0 || which > 2 || what < 0 || what > 1) return NOTHING;
    field.layRows(store[i].a, store[i].b, store[i].c);
    long d = store[i].d;
    if (which == 0) return lowest(field.rows.equate(2), d * d * d, what);
    if (which == 1) return lowest(field.rows.equate(0), d, what);
    return lowest(field.rows.equate(1), d * d, what);
  }

  public int compare(int i, int j) {
    if (!isStored(i) || !isStored(j)) return -2;
    return field.signOfDifference(store[i], store[j]);
  }

  // ---- what is told of the COURSE ----

  public int state(int k, boolean other, int what) {
    if (!course.hasState(k) || what < 0 || what > 4) return UNTOLD;
    return course.number(k, other ? 1 : 0, what);
  }

  public int digit(int k, int what) {
    if (!course.isOn() || k < 1 || k > course.steps) return NONE;
    return course.digitOf(k, what);
  }

  public long product(int i, int j) {
    if (!course.isOn() || !Square.has(i, j)) return NOTHING;
    return course.product.cell(i, j);
  }

  public int determinant() {
    return course.isOn() ? (int) course.product.equate(2) : 0;
  }

  public long bounds(boolean other, int what) {
    if (what < 0 || what > 3 || !hasBounds()) return NOTHING;
    return between.endOf(other ? 1 : 0, what);
  }

  public int outer(boolean other, int what) {
    if (what < 0 || what > 1 || !hasBounds()) return NONE;
    return between.column(other ? 1 : 0, what);
  }

  public long inverse(int i, int j) {
    if (!course.isOn() || !Square.has(i, j) || course.product.isAbove(WIDE)) return NOTHING;
    return course.product.equate(2) * course.product.cofactor(j, i);
  }

  public int side(boolean other, int x, int y) {
    if (!course.isOn() || !isWithin(x, MOST_SIDE) || y < 1 || y > MOST_SIDE) return -2;
    course.lay(0, other ? 1 : 0, first);
    return field.signLess(first, x, y);
  }

  public long simplest(boolean other, int what) {
    if (what < 0 || what > 1 || !hasBounds()) return NOTHING;
    return between.simplestOf(other ? 1 : 0, what);
  }

  public long shared(int what) {
    if (what < 0 || what > 2 || !hasBounds() || between.isAbove(WIDE)) return NOTHING;
    return between.sharedBy(what);
  }

  public int period(int what) {
    if (!course.hasPeriod() || what < 0 || what > 1) return NONE;
    return what == 0 ? course.start : course.span;
  }

  public long round(int i, int j) {
    if (!course.hasPeriod() || !Square.has(i, j)) return NOTHING;
    course.layRound(square);
    long cell = square.cell(i, j);
    return cell == Square.BEYOND ? NOTHING : cell;
  }

  public int unit(int what) {
    if (!course.hasPeriod()) return UNTOLD;
    course.layRound(square);
    if (square.isBeyond() || !course.layUnit(square, first)) return UNTOLD;
    return first.number(what);
  }

  public long equation(int what) {
    if (!course.hasPeriod() || what < 0 || what > 2) return NOTHING;
    course.layRound(square);
    if (square.isBeyond() || square.isAbove(WIDE)) return NOTHING;
    return square.equate(what);
  }

  public boolean isRelation(int k, int l, int m) {
    if (!isWithin(k, MOST_SIDE) || !isWithin(l, MOST_SIDE) || !isWithin(m, MOST_SIDE)) return false;
    return course.isOn() && course.relates(k, l, m);
  }

  public int relation(int n, int what) {
    if (!course.isOn() || n < 1 || n > 9 || what < 0 || what > 2) return UNTOLD;
    return leastRelation(n, what);
  }

  // ---- what is told of the WORD, on paper, of the object ----

  public int word(int k, int what) {
    if (k < 0 || k >= word.length || what < 0 || what > 2) return NONE;
    return word.part(k, what);
  }

  public long spelt(int i, int j) {
    if (word.length == 0 || !Square.has(i, j)) return NOTHING;
    word.spell(square);
    long cell = square.cell(i, j);
    return cell == Square.BEYOND ? NOTHING : cell;
  }

  public int asks(int what) {
    if (word.length == 0 || what < 0 || what > 1) return NONE;
    if (what == 0) return word.isProper() ? 1 : 0;
    return course.isOn() ? likeDigits() : 0;
  }

  public int would(int i, int j, int way, int what) {
    if (!isStored(i) || !isStored(j) || way < 0 || way > 1 || what < 0 || what > 2) return UNTOLD;
    if (!Course.canOpen(field, store[i], store[j])) return UNTOLD;
    paper.open(field, store[i], store[j], way);
    int over = paper.runOut(field);
    if (what == 0) return paper.steps;
    return what == 1 ? over : paper.span;
  }

  public int count(int what) {
    switch (what) {
      case 0: return field.p;
      case 1: return field.q;
      case 2: return field.r;
      case 3: return field.discriminant();
      case 4: return way;
      case 10: return word.length;
      case 11: return past.count;
      case 12: return tape.length;
      default: break;
    }
    if (what >= 5 && what <= 9) return course.isOn() ? course.countOf(what) : 0;
    return what >= 13 && what <= 18 ? told.refusals(what - 13) : UNTOLD;
  }

  public int status() {
    return told.latest;
  }

  // ---- what the calls above have in common ----

  private void note(int act) {
    past.add(act).take(field, store, word, course);
  }

  private void renew(int p, int q, int r) {
    field.put(p, q, r);
    for (int i = 0; i < STORED; i++) store[i].put(0, 0, 0, 1);
    course.close();
  }

  private static boolean isWithin(int x, int most) {
    return x >= -most && x <= most;
  }

  private static boolean isStored(int i) {
    return i >= 0 && i < STORED;
  }

  private int stepsOrNone() {
    return course.isOn() ? course.steps : NONE;
  }

  private void join(int how, Value v, Value w) {
    if (how == 0) field.add(v, w, 1, first);
    if (how == 1) field.add(v, w, -1, first);
    if (how == 2) field.multiply(v, w, first);
    if (how == 3) field.divide(v, w, first);
  }

  /** Lays the FIELD that the WORD's square tells into drawn, its two VALUES into first and second, if they can be. */
  private boolean solved() {
    if (square.isBeyond() || square.isAbove(MOST_FLOOR)) return false;
    long p = square.equate(0);
    long q = -square.equate(1);
    long r = square.equate(2);
    if (!Field.inRange(p, q, r) || !Field.canBe(p, q, r)) return false;
    drawn.put((int) p, (int) q, (int) r);
    return drawn.layRatios(square, first, second) && first.canBe() && second.canBe();
  }

  private boolean hasBounds() {
    return course.isOn() && between.lay(course.product);
  }

  private int leastRelation(int n, int what) {
    int answer = UNTOLD;
    int least = 3 * n + 1;
    for (int k = -n; k <= n; k++) {
      for (int l = -n; l <= n; l++) {
        int m = course.thirdOf(k, l);
        if (!isWithin(m, n)) continue;
        int sum = Math.abs(k) + Math.abs(l) + Math.abs(m);
        if (sum == 0 || sum >= least) continue;
        least = sum;
        answer = what == 0 ? k : what == 1 ? l : m;
      }
    }
    return answer;
  }

  private int likeDigits() {
    int most = Math.min(word.length, course.steps);
    for (int k = 0; k < most; k++) {
      for (int what = 0; what < 3; what++) {
        if (word.part(k, what) != course.digitOf(k + 1, what)) return k;
      }
    }
    return most;
  }

  private static long gcd(long x, long y) {
    long m = x < 0 ? -x : x;
    long n = y < 0 ? -y : y;
    for (int k = 0; k < 200 && n != 0; k++) {
      long rest = m % n;
      m = n;
      n = rest;
    }
    return m;
  }

  /** The upper (what 0) or lower number of x by y in lowest terms. */
  private static long lowest(long x, long y, int what) {
    long g = gcd(x, y);
    if (g == 0) return NOTHING;
    return what == 0 ? x / g : y / g;
  }

  /** a and b times ROOT and c times ROOT times ROOT, by d, in lowest terms. */
  private static final class Value {
    private long a = 0;
    private long b = 0;
    private long c = 0;
    private long d = 1;

    void put(long x, long y, long z, long by) {
      long g = gcd(gcd(x, y), gcd(z, by));
      if (by < 0) g = -g;
      boolean whole = g != 0 && by != 0;
      a = whole ? x / g : 0;
      b = whole ? y / g : 0;
      c = whole ? z / g : 0;
      d = whole ? by / g : 1;
    }

    /** The double of these bits: false, if it can't be a VALUE (what is laid then is of no use). */
    boolean putDouble(long bits) {
      int power = (int) ((bits >>> 52) & 2047);
      long digits = bits & 4503599627370495L;
      put(0, 0, 0, 1);
      if (power == 0) return digits == 0;
      if (power == 2047) return false;
      digits |= 4503599627370496L;
      power -= 1075;
      for (int k = 0; k < 52 && (digits & 1) == 0; k++) {
        digits >>= 1;
        power++;
      }
      // Above 7 places either the number or its lower one is beyond 150.
      if (digits > LARGEST || power > 7 || power < -7) return false;
      long upper = power > 0 ? digits << power : digits;
      put(bits < 0 ? -upper : upper, 0, 0, power < 0 ? 1L << -power : 1);
      return canBe();
    }

    void copy(Value other) {
      a = other.a;
      b = other.b;
      c = other.c;
      d = other.d;
    }

    void load(int[] row, int at) {
      if (at < 0 || at > row.length - 4) return;
      a = row[at];
      b = row[at + 1];
      c = row[at + 2];
      d = row[at + 3];
    }

    void save(int[] row, int at) {
      if (at < 0 || at > row.length - 4) return;
      row[at] = (int) a;
      row[at + 1] = (int) b;
      row[at + 2] = (int) c;
      row[at + 3] = (int) d;
    }

    /** Whole numbers taken off leave lowest terms as they are. */
    void takeOff(long whole) {
      a -= whole * d;
    }

    boolean canBe() {
      return isSmall(a) && isSmall(b) && isSmall(c) && d >= 1 && d <= LARGEST;
    }

    private static boolean isSmall(long x) {
      return x >= -LARGEST && x <= LARGEST;
    }

    boolean isZero() {
      return a == 0 && b == 0 && c == 0;
    }

    int number(int what) {
      if (what == 0) return (int) a;
      if (what == 1) return (int) b;
      if (what == 2) return (int) c;
      return what == 3 ? (int) d : UNTOLD;
    }
  }

  /** ROOT, told by the equation that it solves, and what is done with VALUES by it. */
  private static final class Field {
    private int p = 0;
    private int q = 0;
    private int r = 2;
    private final Square rows = new Square();
    private final Value below = new Value();

    static boolean inRange(long p, long q, long r) {
      return p >= -3 && p <= 3 && q >= -3 && q <= 3 && r >= -3 && r <= 3;
    }

    static boolean canBe(long p, long q, long r) {
      // A whole root divides R, and R is -3 .. 3 (0 is a root by R 0).
      for (int x = -3; x <= 3; x++) {
        if (x * x * x == p * x * x + q * x + r) return false;
      }
      return discriminantOf(p, q, r) < 0;
    }

    private static long discriminantOf(long p, long q, long r) {
      return p * p * q * q + 4 * q * q * q - 4 * p * p * p * r - 27 * r * r - 18 * p * q * r;
    }

    void put(int newP, int newQ, int newR) {
      p = newP;
      q = newQ;
      r = newR;
    }

    int discriminant() {
      return (int) discriminantOf(p, q, r);
    }

    /** The MATRIX of a, b, c. */
    void layRows(long a, long b, long c) {
      rows.layRow(0, a, b, c);
      long top = b + c * p;
      rows.layRow(1, c * r, a + c * q, top);
      rows.layRow(2, top * r, c * r + top * q, a + c * q + top * p);
    }

    /**
     * SIGN of a and b times ROOT and c times ROOT times ROOT. The other two roots are no real numbers, so that the
     * norm is that number times a square: its sign is the number's. Wrapped products do no harm, as the norm is within
     * a long: below 2e18 for all that is compared here.
     */
    private int signOf(long a, long b, long c) {
      long row10 = c * r;
      long row11 = a + c * q;
      long row12 = b + c * p;
      long row20 = row12 * r;
      long row21 = row10 + row12 * q;
      long row22 = row11 + row12 * p;
      long size = a * (row11 * row22 - row12 * row21)
          - b * (row10 * row22 - row12 * row20)
          + c * (row10 * row21 - row11 * row20);
      return size > 0 ? 1 : size < 0 ? -1 : 0;
    }

    int sign(Value v) {
      return signOf(v.a, v.b, v.c);
    }

    int signLess(Value v, long x, long y) {
      return signOf(v.a * y - x * v.d, v.b * y, v.c * y);
    }

    int signOfDifference(Value v, Value w) {
      return signOf(v.a * w.d - w.a * v.d, v.b * w.d - w.b * v.d, v.c * w.d - w.c * v.d);
    }

    int floor(Value v) {
      // ROOT is between -4 and 4, so that a VALUE is within 150 times 21.
      int low = -4096;
      int high = 4096;
      for (int k = 0; k < 13; k++) {
        int middle = (low + high) >> 1;
        if (signLess(v, middle, 1) >= 0) low = middle;
        else high = middle;
      }
      return low;
    }

    void add(Value v, Value w, int times, Value into) {
      long most = times * v.d;
      into.put(v.a * w.d + w.a * most, v.b * w.d + w.b * most, v.c * w.d + w.c * most, v.d * w.d);
    }

    void multiply(Value v, Value w, Value into) {
      layRows(w.a, w.b, w.c);
      into.put(rows.under(v, 0), rows.under(v, 1), rows.under(v, 2), v.d * w.d);
    }

    /** w is not 0: its norm by w is a VALUE, the first column of the cofactors of w's rows. */
    void divide(Value v, Value w, Value into) {
      layRows(w.a, w.b, w.c);
      long size = rows.equate(2);
      layRows(rows.cofactor(0, 0), rows.cofactor(1, 0), rows.cofactor(2, 0));
      into.put(w.d * rows.under(v, 0), w.d * rows.under(v, 1), w.d * rows.under(v, 2), v.d * size);
    }

    /** The VALUES u, v by which m times 1, u, v is ROOT times these: by what is across two rows of m less ROOT. */
    boolean layRatios(Square m, Value u, Value v) {
      below.put(m.cell(0, 1) * m.cell(1, 2) - m.cell(0, 2) * m.cell(1, 1), m.cell(0, 2), 0, 1);
      if (below.isZero()) return false;
      u.put(m.cell(0, 2) * m.cell(1, 0) - m.cell(0, 0) * m.cell(1, 2), m.cell(1, 2), 0, 1);
      v.put(m.cell(0, 0) * m.cell(1, 1) - m.cell(0, 1) * m.cell(1, 0), -m.cell(0, 0) - m.cell(1, 1), 1, 1);
      divide(u, below, u);
      divide(v, below, v);
      return true;
    }
  }

  /** Three rows of three whole numbers. */
  private static final class Square {
    /** Stands for a number above the longs, in squares that have no number below 0. */
    private static final long BEYOND = -1;
    private final long[] cells = new long[9];

    static boolean has(int i, int j) {
      return i >= 0 && i <= 2 && j >= 0 && j <= 2;
    }

    long cell(int i, int j) {
      return has(i, j) ? cells[3 * i + j] : 0;
    }

    void layRow(int i, long x, long y, long z) {
      if (!has(i, 0)) return;
      cells[3 * i] = x;
      cells[3 * i + 1] = y;
      cells[3 * i + 2] = z;
    }

    void layOne() {
      layRow(0, 1, 0, 0);
      layRow(1, 0, 1, 0);
      layRow(2, 0, 0, 1);
    }

    void copy(Square other) {
      System.arraycopy(other.cells, 0, cells, 0, 9);
    }

    /** Times the SQUARE of a STEP, from the right. */
    void follow(int a, int b, boolean turned) {
      for (int row = 0; row < 9; row += 3) {
        long x = cells[row];
        long y = cells[row + 1];
        long z = cells[row + 2];
        cells[row] = turned ? z : y;
        cells[row + 1] = turned ? y : z;
        cells[row + 2] = plus(x, plus(times(a, y), times(b, z)));
      }
    }

    private static long plus(long x, long y) {
      if (x == BEYOND || y == BEYOND || x > LONGEST - y) return BEYOND;
      return x + y;
    }

    private static long times(int n, long x) {
      if (n == 0) return 0;
      if (x == BEYOND || x > LONGEST / n) return BEYOND;
      return n * x;
    }

    boolean isBeyond() {
      for (int k = 0; k < 9; k++) {
        if (cells[k] == BEYOND) return true;
      }
      return false;
    }

    boolean isAbove(long most) {
      for (int k = 0; k < 9; k++) {
        if (cells[k] > most) return true;
      }
      return false;
    }

    /** With the sign that it has in a determinant. */
    long cofactor(int i, int j) {
      if (!has(i, j)) return 0;
      int below = 3 * ((i + 1) % 3);
      int last = 3 * ((i + 2) % 3);
      int right = (j + 1) % 3;
      int end = (j + 2) % 3;
      return cells[below + right] * cells[last + end] - cells[below + end] * cells[last + right];
    }

    /** T (what 0), U (1), D (2) of its EQUATION; D, where it is 1 or -1, is right even if products wrap. */
    long equate(int what) {
      if (what == 0) return cells[0] + cells[4] + cells[8];
      if (what == 1) return cofactor(0, 0) + cofactor(1, 1) + cofactor(2, 2);
      return cells[0] * cofactor(0, 0) + cells[1] * cofactor(0, 1) + cells[2] * cofactor(0, 2);
    }

    /** a, b, c of v times column j. */
    long under(Value v, int j) {
      return v.a * cell(0, j) + v.b * cell(1, j) + v.c * cell(2, j);
    }
  }

  /** A COURSE: its STATES, STEPS, PRODUCT and PERIOD. */
  private static final class Course {
    /** Ten numbers a STATE: a, b, c, d, FLOOR of u, then of v. */
    private final int[] states = new int[10 * (MOST_STEPS + 1)];
    /** By number of STEP: 1, if it is TURNED. */
    private final byte[] turns = new byte[MOST_STEPS + 1];
    private final Square product = new Square();
    private int way = NONE;
    private int steps = 0;
    private int start = NONE;
    private int span = NONE;

    // The next STEP, as prepare() lays it out for take().
    private final Square next = new Square();
    private final Value f = new Value();
    private final Value g = new Value();
    private final Value u = new Value();
    private final Value v = new Value();
    private int floorU = 0;
    private int floorV = 0;
    private boolean turned = false;

    boolean isOn() {
      return way != NONE;
    }

    boolean hasPeriod() {
      return isOn() && start != NONE;
    }

    boolean hasState(int k) {
      return isOn() && k >= 0 && k <= steps;
    }

    int number(int k, int part, int what) {
      int at = 10 * k + 5 * part + what;
      return k >= 0 && at >= 0 && at < states.length ? states[at] : UNTOLD;
    }

    int floorAt(int k, int part) {
      return number(k, part, 4);
    }

    void lay(int k, int part, Value into) {
      into.load(states, 10 * k + 5 * part);
    }

    int digitOf(int k, int what) {
      if (what == 0 || what == 1) return floorAt(k - 1, what);
      return what == 2 && k >= 1 && k < turns.length ? turns[k] : NONE;
    }

    static boolean canOpen(Field field, Value x, Value y) {
      return isFit(field, x) && isFit(field, y);
    }

    private static boolean isFit(Field field, Value x) {
      return field.sign(x) > 0 && field.floor(x) <= MOST_FLOOR;
    }

    void open(Field field, Value x, Value y, int itsWay) {
      close();
      way = itsWay;
      u.copy(x);
      v.copy(y);
      floorU = field.floor(x);
      floorV = field.floor(y);
      saveState();
      product.layOne();
    }

    void close() {
      way = NONE;
      steps = 0;
      start = NONE;
      span = NONE;
    }

    /** The COURSE that was so opened and had so many STEPS: these are done again, as nothing but that tells them. */
    void reopen(Field field, int[] opening, int itsWay, int itsSteps) {
      u.load(opening, 0);
      v.load(opening, 4);
      open(field, u, v, itsWay);
      for (int k = 0; k < itsSteps && k < MOST_STEPS; k++) {
        if (prepare(field) == 0) take();
      }
    }

    /** f is 0 (behind the exchange, by WAY 1): u is whole, by WAY 1 v is, too. */
    boolean ends() {
      return isWhole(0) && (way == 0 || isWhole(1));
    }

    private boolean isWhole(int part) {
      return number(steps, part, 1) == 0 && number(steps, part, 2) == 0 && number(steps, part, 3) == 1;
    }

    /** Lays out the next STEP: 0, or by what it is REFUSED. */
    int prepare(Field field) {
      if (!isOn() || ends()) return NO_COURSE;
      if (steps >= MOST_STEPS) return NO_RESULT;
      layRests(field);
      if (f.isZero()) return NO_COURSE;
      field.divide(g, f, u);
      v.put(1, 0, 0, 1);
      field.divide(v, f, v);
      if (!u.canBe() || !v.canBe()) return NO_RESULT;
      floorU = field.floor(u);
      floorV = field.floor(v);
      if (floorU > MOST_FLOOR || floorV > MOST_FLOOR) return NO_RESULT;
      next.copy(product);
      next.follow(floorAt(steps, 0), floorAt(steps, 1), turned);
      return next.isBeyond() ? NO_RESULT : 0;
    }

    private void layRests(Field field) {
      lay(steps, 0, f);
      lay(steps, 1, g);
      f.takeOff(floorAt(steps, 0));
      g.takeOff(floorAt(steps, 1));
      turned = way == 1 && field.signOfDifference(f, g) < 0;
      if (!turned) return;
      u.copy(f);
      f.copy(g);
      g.copy(u);
    }

    /** Does the STEP that prepare() has just laid out. */
    void take() {
      if (steps >= MOST_STEPS) return;
      steps++;
      turns[steps] = (byte) (turned ? 1 : 0);
      saveState();
      product.copy(next);
      if (start == NONE) findPeriod();
    }

    private void saveState() {
      int at = 10 * steps;
      if (at < 0 || at > states.length - 10) return;
      u.save(states, at);
      states[at + 4] = floorU;
      v.save(states, at + 5);
      states[at + 9] = floorV;
    }

    private void findPeriod() {
      for (int k = 0; k < steps; k++) {
        if (!isLikeLast(k)) continue;
        start = k;
        span = steps - k;
        return;
      }
    }

    private boolean isLikeLast(int k) {
      for (int what = 0; what < 10; what++) {
        if (number(k, 0, what) != number(steps, 0, what)) return false;
      }
      return true;
    }

    /** STEPS till it is over: 1 it ENDS, 2 a PERIOD is found, 3 one would be REFUSED, 0 none of these by 60. */
    int runOut(Field field) {
      for (int k = 0; k <= MOST_STEPS; k++) {
        if (ends()) return 1;
        if (steps >= MOST_STEPS) return 0;
        if (prepare(field) != 0) return 3;
        take();
        if (hasPeriod()) return 2;
      }
      return 0;
    }

    int countOf(int what) {
      if (what == 5) return 1;
      if (what == 6) return way;
      if (what == 7) return steps;
      if (what == 8) return ends() ? 1 : 0;
      int sum = 0;
      for (int k = 1; k <= steps && k < turns.length; k++) sum += turns[k];
      return sum;
    }

    void layRound(Square into) {
      into.layOne();
      for (int k = start + 1; k <= start + span && k < turns.length; k++) {
        into.follow(digitOf(k, 0), digitOf(k, 1), digitOf(k, 2) == 1);
      }
    }

    /** Row 0 of the round times 1, u, v of STATE START, together: false, if it can't be a VALUE. */
    boolean layUnit(Square round, Value into) {
      lay(start, 0, u);
      lay(start, 1, v);
      long a = together(round, u.d * v.d, v.d * u.a, u.d * v.a);
      long b = together(round, 0, v.d * u.b, u.d * v.b);
      long c = together(round, 0, v.d * u.c, u.d * v.c);
      if (a == NOTHING || b == NOTHING || c == NOTHING) return false;
      into.put(a, b, c, u.d * v.d);
      return into.canBe();
    }

    /**
     * Row 0 of the round times x, y, z, together. The numbers of the round may be near the longest, so that their upper
     * and lower halves are summed apart; NOTHING for a sum of more than 31 places, far above what a VALUE has (150
     * times 150 times 150).
     */
    private static long together(Square round, long x, long y, long z) {
      long half = 1L << 31;
      long m0 = round.cell(0, 0);
      long m1 = round.cell(0, 1);
      long m2 = round.cell(0, 2);
      long low = m0 % half * x + m1 % half * y + m2 % half * z;
      long high = m0 / half * x + m1 / half * y + m2 / half * z + Math.floorDiv(low, half);
      low = Math.floorMod(low, half);
      if (high == 0) return low;
      return high == -1 ? low - half : NOTHING;
    }

    /** The m by which k, l, m are a RELATION (one at most, as v is above 0); UNTOLD without one. */
    int thirdOf(int k, int l) {
      int byU = states[3];
      int byV = states[8];
      int what = states[7] != 0 ? 2 : states[6] != 0 ? 1 : 0;
      int times = byU * states[5 + what];
      int rest = -l * byV * states[what];
      if (what == 0) rest -= k * byU * byV;
      if (times == 0 || rest % times != 0) return UNTOLD;
      int m = rest / times;
      return relates(k, l, m) ? m : UNTOLD;
    }

    boolean relates(int k, int l, int m) {
      int byU = states[3];
      int byV = states[8];
      for (int what = 2; what >= 0; what--) {
        int sum = l * byV * states[what] + m * byU * states[5 + what];
        if (what == 0) sum += k * byU * byV;
        if (sum != 0) return false;
      }
      return true;
    }
  }

  /** BOUNDS of u (part 0) and of v (1), and the fractions within them. */
  private static final class Bounds {
    /** Four numbers a part: the least one's upper and lower number, the greatest one's. */
    private final long[] ends = new long[8];
    /** Two columns a part: the least FRACTION's, the greatest one's. */
    private final int[] columns = new int[4];

    /** False, if there are none. */
    boolean lay(Square product) {
      for (int j = 0; j < 3; j++) {
        if (product.cell(0, j) <= 0) return false;
      }
      layPart(product, 0);
      layPart(product, 1);
      return true;
    }

    private void layPart(Square product, int part) {
      int row = part + 1;
      int least = 0;
      int greatest = 0;
      for (int j = 1; j < 3; j++) {
        if (order(product, row, j, least) < 0) least = j;
        if (order(product, row, j, greatest) > 0) greatest = j;
      }
      columns[2 * part] = least;
      columns[2 * part + 1] = greatest;
      for (int k = 0; k < 2; k++) {
        int j = columns[2 * part + k];
        ends[4 * part + 2 * k] = lowest(product.cell(row, j), product.cell(0, j), 0);
        ends[4 * part + 2 * k + 1] = lowest(product.cell(row, j), product.cell(0, j), 1);
      }
    }

    /** SIGN of column i's FRACTION less column j's; by whole parts in turn, as products may be beyond a long. */
    private static int order(Square product, int row, int i, int j) {
      long x = product.cell(row, i);
      long y = product.cell(0, i);
      long z = product.cell(row, j);
      long w = product.cell(0, j);
      int sign = 1;
      for (int k = 0; k < 200 && y > 0 && w > 0; k++) {
        if (x / y != z / w) return x / y > z / w ? sign : -sign;
        long restX = x % y;
        long restZ = z % w;
        // The rest without an upper number is the less one; of two others that the inverse of which is greater.
        if (restX == 0 || restZ == 0) return restX == restZ ? 0 : restX == 0 ? -sign : sign;
        x = y;
        y = restX;
        z = w;
        w = restZ;
        sign = -sign;
      }
      return 0;
    }

    long endOf(int part, int what) {
      int at = 4 * part + what;
      return at >= 0 && at < ends.length ? ends[at] : NOTHING;
    }

    int column(int part, int what) {
      int at = 2 * part + what;
      return at >= 0 && at < columns.length ? columns[at] : NONE;
    }

    boolean isAbove(long most) {
      for (int k = 0; k < 8; k++) {
        if (ends[k] > most) return true;
      }
      return false;
    }

    /** The upper (what 0) or lower number of SIMPLEST: whole parts that both ends have, then the least whole number. */
    long simplestOf(int part, int what) {
      long x = endOf(part, 0);
      long y = endOf(part, 1);
      long z = endOf(part, 2);
      long w = endOf(part, 3);
      // The numbers told so far: as of 1 by 0 and, ahead of it, 0 by 1.
      long now = what == 0 ? 1 : 0;
      long before = 1 - now;
      for (int k = 0; k < 200 && y > 0 && w > 0; k++) {
        long whole = x / y;
        if (x % y == 0) return whole * now + before;
        if (z / w > whole) return (whole + 1) * now + before;
        long told = whole * now + before;
        before = now;
        now = told;
        // What is left over is turned, and so are the least and the greatest.
        long restLeast = x % y;
        long restGreatest = z % w;
        x = w;
        z = y;
        y = restGreatest;
        w = restLeast;
      }
      return NOTHING;
    }

    /** q (what 0), the whole number for u (1), for v (2) of SHARED; NOTHING, if there is no such q. */
    long sharedBy(int what) {
      for (int q = 1; q <= MOST_SHARED; q++) {
        long forU = leastWhole(q, 0);
        if (forU == NOTHING) continue;
        long forV = leastWhole(q, 1);
        if (forV == NOTHING) continue;
        if (what == 0) return q;
        return what == 1 ? forU : forV;
      }
      return NOTHING;
    }

    /** The least whole number that by q lies within the BOUNDS, NOTHING without one. */
    private long leastWhole(int q, int part) {
      long y = endOf(part, 1);
      long w = endOf(part, 3);
      if (y <= 0 || w <= 0) return NOTHING;
      long least = (q * endOf(part, 0) + y - 1) / y;
      return least <= q * endOf(part, 2) / w ? least : NOTHING;
    }
  }

  /** The WORD: a, b, TURNED of up to 40 DIGITS. */
  private static final class Word {
    private final byte[] parts = new byte[3 * MOST_DIGITS];
    private int length = 0;

    void add(int a, int b, int turned) {
      if (length >= MOST_DIGITS) return;
      parts[3 * length] = (byte) a;
      parts[3 * length + 1] = (byte) b;
      parts[3 * length + 2] = (byte) turned;
      length++;
    }

    void copy(Word other) {
      System.arraycopy(other.parts, 0, parts, 0, parts.length);
      length = other.length;
    }

    int part(int k, int what) {
      int at = 3 * k + what;
      return at >= 0 && at < parts.length ? parts[at] : NONE;
    }

    void spell(Square into) {
      into.layOne();
      for (int k = 0; k < length; k++) into.follow(part(k, 0), part(k, 1), part(k, 2) == 1);
    }

    boolean isProper() {
      for (int k = 0; k < length; k++) {
        int a = part(k, 0);
        int b = part(k, 1);
        if (part(k, 2) != 0) return false;
        if (k >= 1 && (b < 1 || a > b)) return false;
        if (k >= 2 && a < 1 && part(k - 1, 0) == part(k - 1, 1)) return false;
      }
      return true;
    }
  }

  /** The TAPE, and how a TEXT on it is read into a draft. */
  private static final class Tape {
    private final byte[] bytes = new byte[MOST_BYTES];
    private final Word draft = new Word();
    private int length = 0;
    private int at = 0;
    private int fault = NONE;

    boolean hasRoom(int more) {
      return length + more <= MOST_BYTES;
    }

    void add(int four) {
      if (!hasRoom(4)) return;
      for (int shift = 24; shift >= 0; shift -= 8) {
        bytes[length] = (byte) (four >> shift);
        length++;
      }
    }

    boolean cut(int n) {
      if (n < 0 || n > length) return false;
      length = n;
      return true;
    }

    /** Reads the TEXT into the draft, its FAULT into fault: whether it can be read. */
    boolean parse() {
      at = 0;
      draft.length = 0;
      boolean whole = hasText();
      fault = whole ? NONE : at;
      return whole;
    }

    /** If not, it stops at the TOKEN that can't go on there. */
    private boolean hasText() {
      for (int n = 0; n < MOST_DIGITS; n++) {
        int a = wholeNumber();
        int b = a == NONE ? NONE : wholeNumber();
        if (b == NONE) return false;
        draft.add(a, b, takes('t') ? 1 : 0);
        skipBlanks();
        if (at >= length) return true;
        if (!takes(';')) return false;
      }
      skipBlanks();
      return false;
    }

    private int wholeNumber() {
      skipBlanks();
      int from = at;
      int n = 0;
      for (int k = 0; k < MOST_BYTES && nextIsDigit(); k++) {
        // Held low, as a row of digits may be as long as the TAPE.
        n = Math.min(10 * n + byteAt() - '0', MOST_FLOOR + 1);
        at++;
      }
      if (from < at && n <= MOST_FLOOR) return n;
      at = from;
      return NONE;
    }

    private boolean takes(char sign) {
      skipBlanks();
      if (byteAt() != sign) return false;
      at++;
      return true;
    }

    private void skipBlanks() {
      for (int k = 0; k < MOST_BYTES && byteAt() == ' '; k++) at++;
    }

    private boolean nextIsDigit() {
      return byteAt() >= '0' && byteAt() <= '9';
    }

    /** NONE behind the end. */
    private int byteAt() {
      return at >= 0 && at < length && at < bytes.length ? bytes[at] & 255 : NONE;
    }
  }

  /** All that undo() and back() bring back: of a COURSE how it was opened, as its STEPS follow from that. */
  private static final class Stand {
    private int p = 0;
    private int q = 0;
    private int r = 0;
    private final int[] values = new int[4 * STORED];
    private final Word letters = new Word();
    private final int[] opening = new int[8];
    private int way = NONE;
    private int steps = 0;

    void take(Field field, Value[] store, Word word, Course course) {
      p = field.p;
      q = field.q;
      r = field.r;
      for (int i = 0; i < store.length; i++) store[i].save(values, 4 * i);
      letters.copy(word);
      way = course.way;
      steps = course.steps;
      System.arraycopy(course.states, 0, opening, 0, 4);
      System.arraycopy(course.states, 5, opening, 4, 4);
    }

    void restore(Field field, Value[] store, Word word, Course course) {
      field.put(p, q, r);
      for (int i = 0; i < store.length; i++) store[i].load(values, 4 * i);
      word.copy(letters);
      course.close();
      if (way != NONE) course.reopen(field, opening, way, steps);
    }
  }

  /** The latest acts, in a ring, and the IMAGES. */
  private static final class Past {
    private final Stand[] ahead = new Stand[MOST_ACTS];
    private final int[] acts = new int[MOST_ACTS];
    private final Stand[] images = new Stand[IMAGES];
    private final boolean[] kept = new boolean[IMAGES];
    private int oldest = 0;
    private int count = 0;

    Past() {
      for (int k = 0; k < MOST_ACTS; k++) ahead[k] = new Stand();
      for (int k = 0; k < IMAGES; k++) images[k] = new Stand();
    }

    /** The place for how all stands ahead of this act; the oldest one is given up, if there are 8. */
    Stand add(int act) {
      if (count >= MOST_ACTS) {
        oldest = (oldest + 1) % MOST_ACTS;
        count--;
      }
      count++;
      acts[place()] = act;
      return ahead[place()];
    }

    Stand newest() {
      return ahead[place()];
    }

    int drop() {
      int act = acts[place()];
      if (count > 0) count--;
      return act;
    }

    void forget() {
      count = 0;
    }

    private int place() {
      return Math.floorMod(oldest + count - 1, MOST_ACTS);
    }
  }

  /** What is told of REFUSED calls. */
  private static final class Told {
    private final int[] counts = new int[6];
    private int latest = 0;

    int refuse(int code) {
      latest = code;
      if (code >= NO_TEXT && code <= BAD_NUMBER) counts[BAD_NUMBER - code]++;
      return code;
    }

    int pass(int answer) {
      latest = 0;
      return answer;
    }

    int refusals(int k) {
      return k >= 0 && k < counts.length ? counts[k] : UNTOLD;
    }
  }
}
