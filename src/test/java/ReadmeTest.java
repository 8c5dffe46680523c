import java.nio.file.Files;
import java.nio.file.Path;
import java.util.ArrayList;
import java.util.List;

/** README.md's example, played: it must answer what its comments say, and README.md must name every call. */
public final class ReadmeTest {
  private static final Check check = new Check();

  public static void main(String[] args) throws Exception {
    example();
    List<String> readme = Files.readAllLines(Path.of("README.md"));
    exampleIsReadmes(readme, Files.readString(Path.of("src/test/java/ReadmeTest.java")));
    everyCallIsNamed(String.join("\n", readme));
    check.end();
  }

  private static void example() {
    PulseLoom loom = new PulseLoom();
    int red = loom.addLamp(0, 6, 2, 5);
    int blue = loom.addLamp(1, 4, 3, 7);
    check.same("meet at first", loom.meet(red, blue), true);
    loom.setShift(blue, 1);
    check.same("meet, shifted", loom.meet(red, blue), false);
    loom.setLimit(11);
    check.same("pass", loom.pass(12), 3);
    check.same("shone, red", loom.shone(red), 4);
    check.same("stayedDark, blue", loom.stayedDark(blue), 3);
    check.same("limitWanted", loom.limitWanted(12), 12);
    check.same("bestShift", loom.bestShift(blue), 1);
  }

  /** Each call of README.md's example must stand in this test too. */
  private static void exampleIsReadmes(List<String> readme, String test) {
    List<String> calls = callsOf(readme);
    check.same("lines in the example", calls.size(), 12);
    for (String call : calls) {
      check.same(call + " is played", test.contains(call), true);
    }
  }

  private static List<String> callsOf(List<String> readme) {
    int begin = readme.indexOf("```java");
    List<String> calls = new ArrayList<>();
    for (String line : readme.subList(begin + 1, readme.size())) {
      if (line.equals("```")) {
        break;
      }
      calls.add(line.substring(0, line.indexOf(';')));
    }
    return calls;
  }

  private static void everyCallIsNamed(String readme) {
    for (java.lang.reflect.Method call : PulseLoom.class.getDeclaredMethods()) {
      if (java.lang.reflect.Modifier.isPublic(call.getModifiers())) {
        check.same(call.getName() + " stands in README.md", readme.contains("`" + call.getName() + "("), true);
      }
    }
  }
}
