import java.io.IOException;
import java.lang.reflect.Method;
import java.lang.reflect.Modifier;
import java.nio.file.Files;
import java.nio.file.Path;
import java.util.Arrays;
import java.util.HashSet;
import java.util.Set;
import java.util.regex.Matcher;
import java.util.regex.Pattern;

/** That README.md's example answers as it says there, and leaves out no call. */
public final class ReadmeTests {
  private static final Check CHECK = new Check();
  private static final Pattern LINE = Pattern.compile("x\\.(\\w+)\\(([-0-9, ]*)\\); +// (-?\\d+).*");

  public static void main(String[] args) throws IOException {
    BestSplits x = new BestSplits();
    Set<String> shown = new HashSet<>();
    for (String line : Files.readAllLines(Path.of("README.md"))) {
      Matcher example = LINE.matcher(line);
      CHECK.holds("a call with its answer: " + line, !line.startsWith("x.") || example.matches());
      if (example.matches()) {
        Call call = Call.of(example.group(1), numbers(example.group(2)));
        CHECK.due(call.toString(), call.on(x), Integer.parseInt(example.group(3)));
        shown.add(call.name());
      }
    }
    for (Method method : BestSplits.class.getDeclaredMethods()) {
      CHECK.holds("shown: " + method, !Modifier.isPublic(method.getModifiers()) || shown.contains(method.getName()));
    }
    CHECK.end("ReadmeTests");
  }

  private static int[] numbers(String list) {
    return Arrays.stream(list.split(", *")).filter(n -> !n.isEmpty()).mapToInt(Integer::parseInt).toArray();
  }
}
