import java.lang.reflect.Method;
import java.util.ArrayList;
import java.util.HashMap;
import java.util.List;
import java.util.Map;
import java.util.regex.Matcher;
import java.util.regex.Pattern;

/**
 * Tests told as texts. A call is "set(0, 1, 0, 0, 1)"; "60*step()" is made sixty times; "writes(1 1;2 3t)" puts a TEXT
 * on the TAPE in place of what was there, "reads(1 1;2 3t)" reads it, too; "measures(0, 2.75)" measures a double.
 * Calls told together stand behind one another.
 */
final class Edges {
  static final int UNTOLD = Integer.MIN_VALUE;
  static final long NOTHING = Long.MIN_VALUE;

  /** ROOT and ROOT times ROOT of the FIELD 0, 0, 2 (1.2599, 1.5874): a PERIOD of one STEP, found in the third. */
  static final String CUBE = "set(0, 0, 1, 0, 1) set(1, 0, 0, 1, 1) begin(0, 1) ";
  /** The STEP "1 1" for ever; 60 of them are within a long. */
  static final String SLOW = "field(1, 1, 1) set(0, 0, -1, 1, 1) set(1, 0, 1, 0, 1) begin(0, 1) ";
  /** 3 by 4 and 5 by 2: ENDS behind three STEPS. */
  static final String SHORT = "set(0, 3, 0, 0, 4) set(1, 5, 0, 0, 2) begin(0, 1) ";

  private static final Pattern CALL = Pattern.compile("(?:(\\d+)\\*)?(\\w+)\\(([^)]*)\\)");
  private static final List<String> ACTS = List.of("field", "way", "set", "measure", "combine", "begin", "step", "go",
      "keep", "read", "solve", "undo", "image", "back");
  private static final Map<String, Method> METHODS = new HashMap<>();

  static {
    for (Method method : CommonDenominator.class.getDeclaredMethods()) METHODS.put(method.getName(), method);
  }

  private final List<String> made = new ArrayList<>();
  private CommonDenominator x = new CommonDenominator();
  private String sentence = "";
  private int calls = 0;
  private int sentences = 0;
  private int answers = 0;
  private int wrong = 0;

  /** What the document says, tested from here on with a new object. */
  void sentence(String words) {
    sentence = words;
    sentences++;
    given("");
  }

  /** A new object and these calls, none of which may be REFUSED. */
  Edges given(String text) {
    renew();
    made.clear();
    return and(text);
  }

  Edges and(String text) {
    for (String call : callsOf(text)) {
      make(call);
      if (isAct(call) && x.status() != 0) wrong(call + " was refused by " + x.status() + ", and should not be");
      made.add(call);
    }
    return this;
  }

  /** The answer of a call that is not REFUSED. */
  Edges is(String call, long want) {
    long got = make(call);
    made.add(call);
    due(call, got, want);
    if (isAct(call)) due("status() behind " + call, x.status(), 0);
    return this;
  }

  /** The answers of "product(1, #)" with 0, 1, 2 .. for the #. */
  Edges are(String call, long... want) {
    for (int k = 0; k < want.length; k++) is(call.replace("#", "" + k), want[k]);
    return this;
  }

  /** The call is REFUSED by that, which changes nothing but what is told of it: the object is like one without it. */
  Edges refused(String call, int code) {
    int[] before = refusals();
    due(call, make(call), code);
    due("status() behind " + call, x.status(), code);
    int[] behind = refusals();
    for (int k = 0; k < 6; k++) due("count(" + (13 + k) + ") behind " + call, behind[k] - before[k], k == -code - 1 ? 1 : 0);
    // What is read is off the TAPE, even if it can't be read.
    boolean reading = call.startsWith("read");
    String instead = call.startsWith("reads") ? "writes" + call.substring(5) + " end(0)" : reading ? "end(0)" : "";
    for (int probe = 0; probe < 6; probe++) {
      List<Long> with = probed(call, probe, reading);
      List<Long> without = probed(instead, probe, reading);
      if (!with.equals(without)) wrong(call + " was refused and changed what probe " + probe + " tells: " + with + without);
    }
    renew();
    for (String one : made) make(one);
    make(call);
    made.add(call);
    return this;
  }

  long ask(String call) {
    long got = make(call);
    made.add(call);
    return got;
  }

  void due(String what, long got, long want) {
    answers++;
    if (got != want) wrong(what + " answered " + got + ", due is " + want);
  }

  void due(String what, boolean right) {
    answers++;
    if (!right) wrong(what);
  }

  /** How it went; the exit code is 1, if an answer was wrong. */
  void end(String name) {
    System.out.println(name + ": " + sentences + " sentences, " + answers + " answers, " + wrong + " not as due");
    if (wrong != 0) System.exit(1);
  }

  private void wrong(String what) {
    wrong++;
    if (wrong <= 40) System.out.println("[" + sentence + "] " + what + ", behind " + made);
  }

  private void renew() {
    x = new CommonDenominator();
    calls = 0;
  }

  private static boolean isAct(String call) {
    return call.startsWith("reads(") || call.startsWith("measures(") || ACTS.contains(call.substring(0, call.indexOf('(')));
  }

  private int[] refusals() {
    int[] counts = new int[6];
    for (int k = 0; k < 6; k++) counts[k] = x.count(13 + k);
    return counts;
  }

  // ---- the calls ----

  private static List<String> callsOf(String text) {
    List<String> found = new ArrayList<>();
    Matcher matcher = CALL.matcher(text);
    while (matcher.find()) {
      int times = matcher.group(1) == null ? 1 : Integer.parseInt(matcher.group(1));
      for (int k = 0; k < times; k++) found.add(matcher.group(2) + "(" + matcher.group(3) + ")");
    }
    return found;
  }

  private long make(String call) {
    String name = call.substring(0, call.indexOf('('));
    String inside = call.substring(call.indexOf('(') + 1, call.lastIndexOf(')'));
    if (name.equals("writes") || name.equals("reads")) return write(inside, name.equals("reads"));
    String[] parts = inside.isEmpty() ? new String[0] : inside.split(", *");
    if (name.equals("measures")) {
      parts[1] = "" + Double.doubleToRawLongBits(Double.parseDouble(parts[1]));
      name = "measure";
    }
    return invoke(name, parts);
  }

  private long invoke(String name, String[] parts) {
    // An object is promised for 512 calls (the looks at status() and count() behind them are not counted here).
    if (++calls > 512) throw new IllegalStateException("more than 512 calls");
    Method method = METHODS.get(name);
    Class<?>[] kinds = method.getParameterTypes();
    Object[] with = new Object[kinds.length];
    for (int k = 0; k < kinds.length; k++) {
      if (kinds[k] == boolean.class) with[k] = Boolean.valueOf(parts[k]);
      else if (kinds[k] == long.class) with[k] = Long.decode(parts[k]);
      else with[k] = parts[k].equals("MIN") ? Integer.MIN_VALUE : parts[k].equals("MAX") ? Integer.MAX_VALUE : Integer.decode(parts[k]);
    }
    try {
      Object got = method.invoke(x, with);
      return got instanceof Boolean ? ((Boolean) got ? 1 : 0) : ((Number) got).longValue();
    } catch (ReflectiveOperationException broken) {
      throw new IllegalStateException(name + " behind " + made, broken);
    }
  }

  private long write(String text, boolean reading) {
    int length = text.length();
    invoke("end", new String[] {"0"});
    for (int at = 0; at < length; at += 20) {
      String[] five = new String[5];
      for (int k = 0; k < 5; k++) {
        int four = 0;
        for (int n = at + 4 * k; n < at + 4 * k + 4; n++) four = four << 8 | (n < length ? text.charAt(n) & 255 : 'x');
        five[k] = "" + four;
      }
      if (invoke("feed", five) == -1) throw new IllegalStateException("a TEXT too long for the TAPE");
    }
    long got = invoke("end", new String[] {"" + length});
    return reading ? invoke("read", new String[0]) : got;
  }

  // ---- what an object is like ----

  /** All that one look tells of a new object with the calls made so far and those ones. */
  private List<Long> probed(String more, int probe, boolean reading) {
    renew();
    for (String one : made) make(one);
    for (String one : callsOf(more)) make(one);
    List<Long> told = new ArrayList<>();
    if (!reading) told.add(invoke("fault", new String[0]));
    if (probe == 0) lookAtStore(told);
    if (probe == 1) lookAtCourse(told);
    if (probe == 2) lookAtWord(told);
    if (probe == 3) lookAtPast(told);
    if (probe >= 4) {
      tell(told, "back(" + (probe - 4) + ")");
      lookShortly(told);
      lookAtCourse(told);
    }
    return told;
  }

  private void tell(List<Long> told, String text) {
    for (String call : callsOf(text)) told.add(make(call));
  }

  private void lookAtStore(List<Long> told) {
    for (int i = 0; i < 6; i++) {
      for (int k = 0; k < 6; k++) tell(told, "value(" + i + ", " + k + ") norm(" + i + ", " + k / 2 + ", " + k % 2 + ")");
      for (int k = 0; k < 9; k++) tell(told, "matrix(" + i + ", " + k / 3 + ", " + k % 3 + ")");
      for (int k = 0; k < 6; k++) tell(told, "compare(" + i + ", " + k + ")");
    }
    for (int k = 0; k < 13; k++) tell(told, "count(" + k + ")");
  }

  private void lookAtCourse(List<Long> told) {
    int steps = x.count(7);
    for (int k = 0; k <= steps; k++) {
      if (k > 3 && k < steps - 2) continue;
      for (int what = 0; what < 5; what++) tell(told, "state(" + k + ", false, " + what + ") state(" + k + ", true, " + what + ")");
    }
    for (int k = 1; k <= steps; k++) tell(told, "digit(" + k + ", 0) digit(" + k + ", 1) digit(" + k + ", 2)");
    for (int k = 0; k < 9; k++) tell(told, ("product(#) inverse(#) round(#)").replace("#", k / 3 + ", " + k % 3));
    for (int k = 0; k < 4; k++) tell(told, ("bounds(false, #) bounds(true, #) unit(#)").replace("#", "" + k));
    for (int k = 0; k < 3; k++) tell(told, ("shared(#) equation(#) relation(9, #)").replace("#", "" + k));
    tell(told, "period(0) period(1) determinant() outer(false, 0) outer(true, 1) simplest(false, 1) simplest(true, 0)");
    tell(told, "side(false, 1, 1) side(true, 3, 2) isRelation(1, 1, -1)");
  }

  private void lookAtWord(List<Long> told) {
    for (int k = 0; k < 40; k++) tell(told, "word(" + k + ", 0) word(" + k + ", 1) word(" + k + ", 2)");
    for (int k = 0; k < 9; k++) tell(told, "spelt(" + k / 3 + ", " + k % 3 + ")");
    tell(told, "asks(0) asks(1) count(12) read() count(12) fault()");
    for (int k = 0; k < 40; k++) tell(told, "word(" + k + ", 0) word(" + k + ", 1) word(" + k + ", 2)");
  }

  private void lookAtPast(List<Long> told) {
    for (int k = 0; k < 9; k++) {
      tell(told, "undo()");
      lookShortly(told);
    }
  }

  private void lookShortly(List<Long> told) {
    for (int k = 0; k < 12; k++) tell(told, "count(" + k + ")");
    for (int k = 0; k < 24; k++) tell(told, "value(" + k / 4 + ", " + k % 4 + ")");
    tell(told, "product(2, 2) word(0, 0) word(0, 1)");
  }
}
