import java.lang.reflect.Method;
import java.nio.file.Files;
import java.nio.file.Path;
import java.util.ArrayList;
import java.util.List;
import java.util.regex.Matcher;
import java.util.regex.Pattern;

/** The calls that README.md shows answer what it says behind them. */
public final class ReadmeTest {
  private static final Pattern LINE = Pattern.compile("((?:x\\.\\w+\\(.*?\\);\\s*)+)// (-?\\d+(?:, -?\\d+)*)(?::.*)?");
  private static final Pattern CALL = Pattern.compile("x\\.(\\w+)\\((.*?)\\);");
  private static final String DOUBLE = "Double.doubleToRawLongBits(";

  public static void main(String[] args) throws Exception {
    CommonDenominator x = null;
    boolean isCode = false;
    int answers = 0;
    int wrong = 0;
    for (String line : Files.readAllLines(Path.of("README.md"))) {
      if (line.startsWith("```")) {
        isCode = line.equals("```java");
      } else if (isCode && line.startsWith("CommonDenominator x = new CommonDenominator();")) {
        x = new CommonDenominator();
      } else if (isCode) {
        Matcher whole = LINE.matcher(line);
        List<Long> got = new ArrayList<>();
        List<Long> due = new ArrayList<>();
        if (whole.matches()) {
          Matcher call = CALL.matcher(whole.group(1));
          while (call.find()) got.add(make(x, call.group(1), call.group(2)));
          for (String number : whole.group(2).split(", ")) due.add(Long.valueOf(number));
        }
        answers += got.size();
        if (!got.isEmpty() && got.equals(due)) continue;
        wrong++;
        System.out.println("README.md: " + line + " answered " + got);
      }
    }
    if (answers < 40) wrong++;
    System.out.println("README.md: " + answers + " answers, " + wrong + " lines not as due");
    if (wrong != 0) System.exit(1);
  }

  private static long make(CommonDenominator x, String name, String given) throws Exception {
    String[] texts = given.isEmpty() ? new String[0] : given.split(", ");
    for (Method method : CommonDenominator.class.getDeclaredMethods()) {
      if (!method.getName().equals(name)) continue;
      Class<?>[] kinds = method.getParameterTypes();
      Object[] with = new Object[kinds.length];
      for (int k = 0; k < kinds.length; k++) with[k] = argument(kinds[k], texts[k]);
      return ((Number) method.invoke(x, with)).longValue();
    }
    throw new IllegalStateException("no method " + name);
  }

  private static Object argument(Class<?> kind, String text) {
    if (kind == boolean.class) return Boolean.valueOf(text);
    if (kind == int.class) return Integer.decode(text);
    String number = text.startsWith(DOUBLE) ? text.substring(DOUBLE.length(), text.length() - 1) : text;
    return Double.doubleToRawLongBits(Double.parseDouble(number));
  }
}
