import java.nio.file.Files;
import java.nio.file.Path;
import java.util.List;
import java.util.regex.Matcher;
import java.util.regex.Pattern;

/** What of ../shared/LANGUAGE.md a look at the text can tell: words that may not stand, and how long methods are. */
public final class LanguageTest {
  private static final Path PROGRAM = Path.of("src/main/java/PulseLoom.java");
  private static final int LONGEST_METHOD = 60;
  private static final String[] NEVER = {
    "->", "::", "\\bpackage\\b", "\\bfinally\\b", "\\bsynchronized\\b", "\\bassert\\b", "\\bcatch\\b", "\\btry\\b",
    "Exact\\b", "\\bstatic \\{", "\\bhashCode\\b", "\\bequals\\b", "\\btoString\\b", "\\bSystem\\b", "\\bRandom\\b",
    "\\bString\\b", "\\bObject\\b", "\\bprotected\\b", "import (?!java\\.util\\.ArrayList;)", "for \\([^;]*:[^;]*\\)",
    "throw new (?!IllegalArgument|IllegalState|IndexOutOfBounds)", "[^\\n -~]",
    // What a call makes is counted: lamps, their list and exceptions alone.
    "(?<!throw )new (?!Lamp\\(|ArrayList<Lamp>\\()",
  };

  private static final Check check = new Check();

  public static void main(String[] args) throws Exception {
    String code = withoutComments(Files.readString(PROGRAM));
    for (String never : NEVER) {
      Matcher found = Pattern.compile(never).matcher(code);
      check.same("LANGUAGE.md: " + never + " stands in the program", found.find(), false);
    }
    methodsAreShort(List.of(code.split("\n")));
    check.end();
  }

  private static String withoutComments(String text) {
    return text.replaceAll("/\\*\\*.*?\\*/", "").replaceAll("//[^\n]*", "");
  }

  private static void methodsAreShort(List<String> lines) {
    int begin = -1;
    for (int i = 0; i < lines.size(); i++) {
      String line = lines.get(i);
      boolean opens = line.matches("  (public|private) .*\\(.*") || line.matches("    (int|boolean|Lamp)\\b.*\\{");
      if (opens) {
        begin = i;
      }
      if (begin >= 0 && line.matches(" {2,4}\\}")) {
        check.same("line " + (begin + 1) + ": short enough", i - begin < LONGEST_METHOD, true);
        begin = -1;
      }
    }
  }
}
