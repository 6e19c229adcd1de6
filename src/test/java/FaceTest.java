import java.io.IOException;
import java.lang.reflect.Constructor;
import java.lang.reflect.Field;
import java.lang.reflect.Method;
import java.lang.reflect.Modifier;
import java.nio.file.Files;
import java.nio.file.Path;
import java.util.ArrayList;
import java.util.Arrays;
import java.util.List;
import java.util.Set;
import java.util.TreeSet;
import java.util.regex.Matcher;
import java.util.regex.Pattern;

/** The public face of the document, and the rules of LANGUAGE.md that a look can tell. */
public final class FaceTest {
  private static final Path SOURCE = Path.of("src/main/java/EldestSays.java");
  private static final Path DOCUMENT = Path.of("../shared/DOC.md");
  private static final String[] FACE = {
    "int feed(int)", "int beach()", "int man(int, int)", "int set(int, int)",
    "int offered(int, int)", "int price(int, int)", "int votes(int)", "int carries(int)",
    "int ends(int)", "int gets(int, int)", "int bought(int)", "int row(int)", "int judge(int)",
    "int goes(int)", "int says()", "int got(int)", "int alike(int, int, int, boolean)",
    "int fewest()", "int byLaw(int, int, int)", "int gains()", "int swap(int, int)",
    "int bestAge(int)", "int league(int)", "long shaken(int)", "int seeds(int, int, int)",
    "int clear()", "int image()", "int restore()", "int count(int)",
  };
  private static final String[] FORBIDDEN = {
    "\\bthrow\\b", "\\bthrows\\b", "\\btry\\b", "\\bcatch\\b", "\\bsynchronized\\b",
    "\\bassert\\b", "->", "::", "\\bpackage\\b", "@", "\"", "\\.equals\\b", "\\bhashCode\\b",
    "\\btoString\\b", "\\bstatic\\s*\\{", "\\bvar\\b", "\\bfloat\\b", "\\bdouble\\b",
    "\\bwhile\\s*\\(\\s*true", "\\bSystem\\.(?!arraycopy)", "\\bMath\\.\\w+Exact\\b",
    "\\bInteger\\.[A-Z]", "\\bLong\\.[A-Z]", "\\bArrays\\.(?!fill|copyOf)",
  };

  public static void main(String[] args) throws IOException {
    listed(Files.readString(DOCUMENT));
    face();
    members();
    source(withoutComments(Files.readString(SOURCE)));
    Due.end();
  }

  /** The list above is the document's own: its block of the face, without names of arguments. */
  private static void listed(String document) {
    Set<String> want = new TreeSet<>();
    Matcher line = Pattern.compile("\n    public (\\w+ \\w+\\(.*\\));").matcher(document);
    while (line.find()) {
      want.add(line.group(1).replaceAll("(int|boolean) \\w+([,)])", "$1$2"));
    }
    Set<String> lacking = new TreeSet<>(want);
    lacking.removeAll(List.of(FACE));
    Due.due("of the document's face, not listed " + lacking, lacking.size(), 0);
    Due.due("as many as the document has", FACE.length, want.size());
  }

  private static void face() {
    Set<String> want = new TreeSet<>(List.of(FACE));
    Set<String> got = new TreeSet<>();
    for (Method m : EldestSays.class.getDeclaredMethods()) {
      if (!Modifier.isPrivate(m.getModifiers())) {
        String types = Arrays.toString(m.getParameterTypes());
        got.add(m.getReturnType() + " " + m.getName() + "(" + types.substring(1, types.length() - 1) + ")");
        Due.due("public: " + m, Modifier.isPublic(m.getModifiers()) ? 1 : 0, 1);
        Due.due("not static: " + m, Modifier.isStatic(m.getModifiers()) ? 1 : 0, 0);
      }
    }
    want.removeAll(got);
    Due.due("lacking " + want, want.size(), 0);
    got.removeAll(List.of(FACE));
    Due.due("too much " + got, got.size(), 0);
    Constructor<?>[] made = EldestSays.class.getDeclaredConstructors();
    Due.due("one constructor", made.length, 1);
    Due.due("public", made[0].getModifiers(), Modifier.PUBLIC);
    Due.due("without arguments", made[0].getParameterCount(), 0);
    Due.due("public and final", EldestSays.class.getModifiers(), Modifier.PUBLIC | Modifier.FINAL);
  }

  private static void members() {
    Set<String> names = new TreeSet<>();
    for (String f : FACE) {
      names.add(f.substring(f.indexOf(' ') + 1, f.indexOf('(')));
    }
    List<Class<?>> classes = new ArrayList<>(List.of(EldestSays.class.getDeclaredClasses()));
    for (Class<?> c : classes) {
      Due.due("static: " + c, Modifier.isStatic(c.getModifiers()) ? 1 : 0, 1);
      Due.due("not public: " + c, Modifier.isPublic(c.getModifiers()) ? 1 : 0, 0);
      Due.due("no class inside: " + c, c.getDeclaredClasses().length, 0);
      for (Method m : c.getDeclaredMethods()) {
        Due.due("a name of the face inside: " + m, names.contains(m.getName()) ? 1 : 0, 0);
      }
    }
    Due.due("at most twelve classes", Math.max(12, classes.size() + 1), 12);
    classes.add(EldestSays.class);
    for (Class<?> c : classes) {
      int fields = 0;
      for (Field f : c.getDeclaredFields()) {
        boolean isStatic = Modifier.isStatic(f.getModifiers());
        fields += isStatic ? 0 : 1;
        Due.due("final: " + f, isStatic && !Modifier.isFinal(f.getModifiers()) ? 1 : 0, 0);
      }
      Due.due("at most twenty fields: " + c, Math.max(20, fields), 20);
      for (Method m : c.getDeclaredMethods()) {
        Due.due("at most seven parameters: " + m, Math.max(7, m.getParameterCount()), 7);
      }
    }
    for (Method m : EldestSays.class.getDeclaredMethods()) {
      boolean twice = Modifier.isPrivate(m.getModifiers()) && names.contains(m.getName());
      Due.due("a private one of a public name: " + m, twice ? 1 : 0, 0);
    }
    for (Field f : EldestSays.class.getDeclaredFields()) {
      Due.due("private: " + f, Modifier.isPrivate(f.getModifiers()) ? 1 : 0, 1);
    }
  }

  private static void source(String text) {
    for (String word : FORBIDDEN) {
      Matcher found = Pattern.compile(word).matcher(text);
      Due.due("forbidden " + word, found.find() ? 1 : 0, 0);
    }
    Matcher imports = Pattern.compile("import ([^;]*);").matcher(text);
    while (imports.find()) {
      Due.due("import of " + imports.group(1), imports.group(1).equals("java.util.Arrays") ? 1 : 0, 1);
    }
    int start = 0;
    String[] lines = text.split("\n");
    for (int k = 0; k < lines.length; k++) {
      if (lines[k].matches(" {2}( {2})?[^ }/].*\\) \\{|    \\w.*\\) \\{")) {
        start = k;
      }
      if (lines[k].matches(" {2}( {2})?\\}")) {
        Due.due("sixty lines at most, line " + (start + 1), Math.max(60, k - start + 1), 60);
      }
    }
    Due.due("signs of ASCII alone", text.chars().filter(c -> c > 126).count(), 0);
  }

  private static String withoutComments(String text) {
    return text.replaceAll("(?s)/\\*.*?\\*/", "").replaceAll("//[^\n]*", "");
  }
}
