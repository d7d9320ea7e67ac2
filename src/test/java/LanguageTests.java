import java.io.IOException;
import java.lang.reflect.Constructor;
import java.lang.reflect.Field;
import java.lang.reflect.Method;
import java.lang.reflect.Modifier;
import java.nio.file.Files;
import java.nio.file.Path;
import java.util.HashSet;
import java.util.List;
import java.util.Set;
import java.util.TreeSet;
import java.util.regex.Matcher;
import java.util.regex.Pattern;

/** The public face, and those rules of LANGUAGE.md that can be seen in the class and in its text. */
public final class LanguageTests {
  private static final Check CHECK = new Check();
  private static final String SOURCE = "src/main/java/BestSplits.java";
  private static final List<String> FACE = List.of("column/2", "row/5", "clear/0", "settings/3", "nodes/0",
      "node/2", "count/2", "gain/2", "leaf/4", "leafOf/1", "cuts/0", "cutGain/4", "stages/0", "alpha/2",
      "leaves/1", "wrong/1", "state/2", "leftOut/0");

  public static void main(String[] args) throws IOException {
    face();
    classesInside();
    text();
    CHECK.end("LanguageTests");
  }

  private static void face() {
    Class<?> face = BestSplits.class;
    CHECK.holds("public final", Modifier.isPublic(face.getModifiers()) && Modifier.isFinal(face.getModifiers()));
    Set<String> open = new TreeSet<>();
    for (Method m : face.getDeclaredMethods()) {
      if (!Modifier.isPrivate(m.getModifiers())) {
        CHECK.holds("public: " + m, Modifier.isPublic(m.getModifiers()) && !Modifier.isStatic(m.getModifiers()));
        CHECK.holds("int: " + m, m.getReturnType() == int.class);
        open.add(m.getName() + "/" + m.getParameterCount());
      }
    }
    CHECK.holds("the document's methods: " + open, open.equals(new TreeSet<>(FACE)));
    Constructor<?>[] made = face.getDeclaredConstructors();
    CHECK.holds("one constructor", made.length == 1 && Modifier.isPublic(made[0].getModifiers())
        && made[0].getParameterCount() == 0);
    for (Field f : face.getDeclaredFields()) {
      CHECK.holds("private: " + f, Modifier.isPrivate(f.getModifiers()));
    }
  }

  private static void classesInside() {
    Set<String> names = new HashSet<>();
    FACE.forEach(f -> names.add(f.substring(0, f.indexOf('/'))));
    Class<?>[] inside = BestSplits.class.getDeclaredClasses();
    CHECK.holds("at most twelve classes", inside.length + 1 <= 12);
    look(BestSplits.class);
    for (Class<?> c : inside) {
      CHECK.holds("static: " + c, Modifier.isStatic(c.getModifiers()));
      CHECK.holds("not open: " + c, !Modifier.isPublic(c.getModifiers()) && !Modifier.isProtected(c.getModifiers()));
      look(c);
      for (Method m : c.getDeclaredMethods()) {
        CHECK.holds("no name of the face: " + m, !names.contains(m.getName()));
      }
    }
  }

  private static void look(Class<?> c) {
    int own = 0;
    for (Field f : c.getDeclaredFields()) {
      boolean isStatic = Modifier.isStatic(f.getModifiers());
      CHECK.holds("static is final: " + f, !isStatic || Modifier.isFinal(f.getModifiers()));
      own += isStatic ? 0 : 1;
    }
    CHECK.holds("at most twenty fields: " + c, own <= 20);
    for (Method m : c.getDeclaredMethods()) {
      CHECK.holds("at most seven parameters: " + m, m.getParameterCount() <= 7);
      CHECK.holds("nothing that the compiler adds: " + m, !m.isSynthetic());
    }
  }

  private static void text() throws IOException {
    String code = withoutComments(Files.readString(Path.of(SOURCE)));
    for (String word : List.of("throw", "throws", "try", "catch", "finally", "synchronized", "assert", "import",
        "package", "double", "float", "String", "System", "Object", "protected", "volatile", "native")) {
      CHECK.holds("no " + word, !Pattern.compile("\\b" + word + "\\b").matcher(code).find());
    }
    for (String sign : List.of("->", "::", "Exact", "\"", "static {", "@")) {
      CHECK.holds("no " + sign, !code.contains(sign));
    }
    Matcher library = Pattern.compile("\\b(Integer|Long|Math)\\.(\\w+)").matcher(code);
    while (library.find()) {
      CHECK.holds("allowed: " + library.group(),
          Set.of("bitCount", "compare", "max", "min", "abs").contains(library.group(2)));
    }
    methodsAreShort(code);
  }

  private static String withoutComments(String text) {
    return text.replaceAll("(?s)/\\*.*?\\*/", "").replaceAll("//[^\\n]*", "");
  }

  /** A method is what stands between a head and the brace at the head's own margin. */
  private static void methodsAreShort(String code) {
    Pattern head = Pattern.compile("( {2}| {4})(?!if|for|while|switch)\\w.*\\) \\{");
    String margin = null;
    int length = 0;
    int methods = 0;
    for (String line : code.split("\n")) {
      Matcher begins = head.matcher(line);
      length++;
      if (margin == null && begins.matches()) {
        margin = begins.group(1);
        length = 1;
      } else if (margin != null && line.equals(margin + "}")) {
        CHECK.holds("a method of " + length + " lines", length <= 60);
        margin = null;
        methods++;
      }
    }
    CHECK.holds("methods were found: " + methods, methods > FACE.size());
  }
}
