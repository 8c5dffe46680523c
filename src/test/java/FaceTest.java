import java.lang.reflect.Constructor;
import java.lang.reflect.Method;
import java.lang.reflect.Modifier;
import java.nio.file.Files;
import java.nio.file.Path;
import java.util.ArrayList;
import java.util.List;
import java.util.TreeSet;

/** The public face: exactly the members of the document's code block, each with its throws clause. */
public final class FaceTest {
  private static final Check check = new Check();

  public static void main(String[] args) throws Exception {
    int modifiers = PulseLoom.class.getModifiers();
    check.same("public", Modifier.isPublic(modifiers), true);
    check.same("final", Modifier.isFinal(modifiers), true);
    check.sameText("the face", String.join("\n", membersThere()), String.join("\n", membersDue()));
    check.same("one constructor", PulseLoom.class.getDeclaredConstructors().length, 1);
    noOtherMembers();
    headings();
    check.end();
  }

  private static TreeSet<String> membersDue() throws Exception {
    TreeSet<String> members = new TreeSet<>();
    for (String line : Files.readAllLines(Path.of("../shared/DOC.md"))) {
      String text = line.trim();
      if (text.startsWith("public ") && text.endsWith(";")) {
        members.add(withoutNames(text.substring(0, text.length() - 1)));
      }
    }
    return members;
  }

  /** Leaves of each parameter its type alone. */
  private static String withoutNames(String member) {
    int open = member.indexOf('(');
    int close = member.indexOf(')');
    List<String> types = new ArrayList<>();
    for (String parameter : member.substring(open + 1, close).split(",")) {
      types.add(parameter.trim().split(" ")[0]);
    }
    return member.substring(0, open + 1) + String.join(", ", types) + member.substring(close);
  }

  private static TreeSet<String> membersThere() {
    TreeSet<String> members = new TreeSet<>();
    for (Constructor<?> one : PulseLoom.class.getConstructors()) {
      members.add("public PulseLoom" + listed(one.getParameterTypes(), one.getExceptionTypes()));
    }
    for (Method one : PulseLoom.class.getDeclaredMethods()) {
      if (Modifier.isPublic(one.getModifiers())) {
        members.add("public " + one.getReturnType().getSimpleName() + " " + one.getName()
            + listed(one.getParameterTypes(), one.getExceptionTypes()));
      }
    }
    return members;
  }

  private static String listed(Class<?>[] parameters, Class<?>[] exceptions) {
    return "(" + names(parameters) + ")" + (exceptions.length == 0 ? "" : " throws " + names(exceptions));
  }

  private static String names(Class<?>[] types) {
    List<String> names = new ArrayList<>();
    for (Class<?> type : types) {
      names.add(type.getSimpleName());
    }
    return String.join(", ", names);
  }

  private static void noOtherMembers() {
    TreeSet<String> publicNames = new TreeSet<>();
    for (Method one : PulseLoom.class.getDeclaredMethods()) {
      if (Modifier.isPublic(one.getModifiers())) {
        publicNames.add(one.getName());
      }
    }
    for (Method one : PulseLoom.class.getDeclaredMethods()) {
      boolean isPublic = Modifier.isPublic(one.getModifiers());
      check.same(one + " is public or private", isPublic || Modifier.isPrivate(one.getModifiers()), true);
      check.same(one + " bears a public name", !isPublic && publicNames.contains(one.getName()), false);
    }
    for (java.lang.reflect.Field one : PulseLoom.class.getDeclaredFields()) {
      check.same(one + " is private", Modifier.isPrivate(one.getModifiers()), true);
      if (Modifier.isStatic(one.getModifiers())) {
        check.same(one + " is final", Modifier.isFinal(one.getModifiers()), true);
      }
    }
  }

  /** "Ahead of the calls .. the interface says: ..": the same headings with the same calls below them, in order. */
  private static void headings() throws Exception {
    StringBuilder due = new StringBuilder();
    for (String line : Files.readAllLines(Path.of("../shared/DOC.md"))) {
      if (line.startsWith("Ahead of the calls ")) {
        int says = line.indexOf(" the interface says: ");
        due.append(line.substring(line.indexOf("----"), line.length() - 1)).append(": ");
        due.append(line.substring("Ahead of the calls ".length(), says).replace("`", "")).append('\n');
      }
    }
    check.sameText("the headings", headingsThere(), due.toString());
  }

  private static String headingsThere() throws Exception {
    StringBuilder there = new StringBuilder();
    String between = ": ";
    for (String line : Files.readAllLines(Path.of("src/main/java/PulseLoom.java"))) {
      if (line.startsWith("  // ---- ")) {
        there.append(there.length() == 0 ? "" : "\n").append(line.substring("  // ".length()));
        between = ": ";
      } else if (line.matches("  public \\w+ \\w+\\(.*")) {
        there.append(between).append(line.substring(0, line.indexOf('(')).replaceAll(".* ", ""));
        between = ", ";
      }
    }
    // Private methods stand last, below a heading of their own without any call of the face.
    return there.toString().replaceAll("---- [^:]*$", "");
  }
}
