import java.lang.reflect.Constructor;
import java.lang.reflect.Field;
import java.lang.reflect.Method;
import java.lang.reflect.Modifier;
import java.nio.file.Files;
import java.nio.file.Path;
import java.util.ArrayList;
import java.util.List;
import java.util.Set;
import java.util.TreeSet;
import java.util.regex.Matcher;
import java.util.regex.Pattern;

/** The class keeps to its face and to what ../shared/LANGUAGE.md leaves of the language, as far as a text tells that. */
public final class LanguageTest {
  private static final String FACE = "field(int,int,int):int way(int):int set(int,int,int,int,int):int measure(int,long):int "
      + "combine(int,int,int,int):int begin(int,int):int step():int go(int):int keep(int,int):int "
      + "feed(int,int,int,int,int):int end(int):int read():int solve():int fault():int undo():int image(int):int "
      + "back(int):int value(int,int):int matrix(int,int,int):long norm(int,int,int):long compare(int,int):int "
      + "state(int,boolean,int):int digit(int,int):int product(int,int):long determinant():int bounds(boolean,int):long "
      + "outer(boolean,int):int inverse(int,int):long side(boolean,int,int):int simplest(boolean,int):long "
      + "shared(int):long period(int):int round(int,int):long unit(int):int equation(int):long "
      + "isRelation(int,int,int):boolean relation(int,int):int word(int,int):int spelt(int,int):long asks(int):int "
      + "would(int,int,int,int):int count(int):int status():int";
  private static final String[] FORBIDDEN = {"throw", "throws", "try", "catch", "finally", "synchronized", "assert",
    "import", "package", "instanceof", "var", "volatile", "transient", "native", "protected", "Object", "System\\.out",
    "Thread", "Random", "nanoTime", "currentTimeMillis", "hashCode", "equals", "toString", "\\w+Exact"};
  private static int wrong = 0;

  public static void main(String[] args) throws Exception {
    face();
    for (Class<?> inside : CommonDenominator.class.getDeclaredClasses()) inside(inside);
    due(CommonDenominator.class.getDeclaredClasses().length <= 12, "some twelve classes");
    text(Files.readString(Path.of("src/main/java/CommonDenominator.java")));
    System.out.println(wrong == 0 ? "the language is kept to" : wrong + " rules are broken");
    if (wrong != 0) System.exit(1);
  }

  private static void due(boolean right, String rule) {
    if (right) return;
    wrong++;
    System.out.println("broken: " + rule);
  }

  private static void face() {
    Class<?> all = CommonDenominator.class;
    Set<String> due = new TreeSet<>(List.of(FACE.split(" ")));
    Set<String> names = new TreeSet<>();
    Set<String> found = new TreeSet<>();
    due(Modifier.isPublic(all.getModifiers()) && Modifier.isFinal(all.getModifiers()), "the class is public and final");
    for (Method method : all.getDeclaredMethods()) {
      if (Modifier.isPublic(method.getModifiers())) {
        found.add(signature(method));
        names.add(method.getName());
      } else {
        due(Modifier.isPrivate(method.getModifiers()), method + " is private");
      }
    }
    due(found.equals(due), "the face: " + found);
    for (Method method : all.getDeclaredMethods()) {
      due(Modifier.isPublic(method.getModifiers()) || !names.contains(method.getName()), method + " has another name");
    }
    for (Field field : all.getDeclaredFields()) {
      boolean open = field.getName().equals("NONE") || field.getName().equals("NOTHING");
      due(open == Modifier.isPublic(field.getModifiers()), field + " is public or not");
      due(open || Modifier.isPrivate(field.getModifiers()), field + " is private");
      due(!Modifier.isStatic(field.getModifiers()) || Modifier.isFinal(field.getModifiers()), field + " is final");
    }
    Constructor<?>[] made = all.getDeclaredConstructors();
    due(made.length == 1 && made[0].getParameterCount() == 0 && Modifier.isPublic(made[0].getModifiers()), "constructor");
  }

  private static String signature(Method method) {
    List<String> kinds = new ArrayList<>();
    for (Class<?> kind : method.getParameterTypes()) kinds.add(kind.getName());
    return method.getName() + "(" + String.join(",", kinds) + "):" + method.getReturnType().getName();
  }

  private static void inside(Class<?> inside) {
    due(Modifier.isStatic(inside.getModifiers()), inside + " is static");
    due(!Modifier.isPublic(inside.getModifiers()), inside + " is not public");
    int fields = 0;
    for (Field field : inside.getDeclaredFields()) {
      boolean isStatic = Modifier.isStatic(field.getModifiers());
      due(!isStatic || Modifier.isFinal(field.getModifiers()), field + " is final");
      if (!isStatic) fields++;
    }
    due(fields <= 20, inside + " has some twenty fields");
    for (Method method : inside.getDeclaredMethods()) {
      due(method.getParameterCount() <= 7, method + " takes seven at most");
      due(!FACE.matches("(.* )?" + method.getName() + "\\(.*"), method + " bears no name of the face");
    }
  }

  private static void text(String source) {
    String bare = source.replaceAll("(?s)/\\*.*?\\*/", "").replaceAll("//[^\n]*", "");
    for (String word : FORBIDDEN) due(!Pattern.compile("\\b" + word + "\\b").matcher(bare).find(), "no " + word);
    due(!bare.contains("->") && !bare.contains("::"), "no lambda, no method reference");
    due(!bare.contains("while"), "every loop counts");
    due(bare.chars().allMatch(c -> c < 128), "signs below 128");
    // A method ends at the first line that is a brace as deep as its head.
    Matcher heads = Pattern.compile("(?m)^( {2,4})[^\n=;]*\\([^\n;]*\\) \\{$").matcher(bare);
    int methods = 0;
    while (heads.find()) {
      int end = bare.indexOf("\n" + heads.group(1) + "}\n", heads.end());
      String body = bare.substring(heads.end(), end);
      methods++;
      due(body.split("\n").length <= 60, "short: " + heads.group());
    }
    due(methods > 100, "methods were found");
  }
}
