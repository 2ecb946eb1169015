import java.lang.reflect.Constructor;
import java.lang.reflect.Field;
import java.lang.reflect.Method;
import java.lang.reflect.Modifier;
import java.nio.file.Files;
import java.nio.file.Path;
import java.util.ArrayList;
import java.util.Collections;
import java.util.HashSet;
import java.util.List;
import java.util.Set;
import java.util.regex.Matcher;
import java.util.regex.Pattern;

/** The face, and those rules of LANGUAGE.md that can be looked up in the file or its classes. */
public final class LanguageTest {
  private static final String FACE = "int hull(III) int name(III) int fits(II) int type(I) int wipe() int fault() "
      + "int read(I) int borne(II) int purse(II) int debt(III) int been(II) int home(I) int other(II) int sound(I) "
      + "long chance(III) long ahead(II) int best(I) int rather(I) int on(III) int returns(II) int lot(II) "
      + "int claim(III) int owed(II) int lightest(I) int disputed() int seen(III) int forget(I) int could(I) "
      + "int isFalse() int sheet(III) int lose(I) int put(IIII) int get(III) int copy(IIIII) int write(II) "
      + "int count(I) long digest()";
  private static final Pattern FACE_PART = Pattern.compile("(?:int|long) (\\w+)\\(I*\\)");
  private static final String[] FORBIDDEN = {
      "throw", "throws", "try", "catch", "finally", "synchronized", "assert", "protected", "volatile", "transient",
      "native", "Thread", "Random", "System.currentTimeMillis", "System.nanoTime", "System.out", "Object", "Map", "Set",
      "package", "goto", "Override", "var"};

  public static void main(String[] args) throws Exception {
    face();
    ownClasses();
    staticFields();
    source();
    Check.end();
  }

  private static void face() throws Exception {
    Class<?> c = SailAsAnother.class;
    Check.due("public and final", c.getModifiers(), Modifier.PUBLIC | Modifier.FINAL);
    List<String> got = new ArrayList<>();
    for (Method m : c.getDeclaredMethods()) {
      if (Modifier.isPrivate(m.getModifiers()) || m.isSynthetic()) {
        continue;
      }
      Check.due(m.getName() + " is public and nothing else", m.getModifiers(), Modifier.PUBLIC);
      got.add(m.getReturnType() + " " + m.getName() + "(" + "I".repeat(intsOf(m)) + ")");
    }
    List<String> want = new ArrayList<>();
    Matcher parts = FACE_PART.matcher(FACE);
    while (parts.find()) {
      want.add(parts.group());
    }
    Collections.sort(got);
    Collections.sort(want);
    Check.due("methods of the face: " + got, got.equals(want));
    Constructor<?>[] made = c.getDeclaredConstructors();
    Check.due("one constructor", made.length, 1);
    Check.due("it is public", made[0].getModifiers(), Modifier.PUBLIC);
    Check.due("it has no parameter", made[0].getParameterCount(), 0);
    Check.due("NONE", SailAsAnother.NONE, -1);
    Check.due("BAD", SailAsAnother.BAD, -2);
    Check.due("NOT", SailAsAnother.NOT, -3);
    Check.due("FULL", SailAsAnother.FULL, -4);
    Check.due("four public constants", c.getFields().length, 4);
    for (Field f : c.getDeclaredFields()) {
      int shown = Modifier.PUBLIC | Modifier.STATIC | Modifier.FINAL;
      boolean well = Modifier.isPrivate(f.getModifiers()) || f.getModifiers() == shown;
      Check.due("field " + f.getName() + " is private or of the face", well);
    }
  }

  private static int intsOf(Method m) {
    for (Class<?> type : m.getParameterTypes()) {
      Check.due(m.getName() + " takes ints", type == int.class);
    }
    return m.getParameterCount();
  }

  private static List<Class<?>> allClasses() {
    List<Class<?>> all = new ArrayList<>(List.of(SailAsAnother.class.getDeclaredClasses()));
    all.add(SailAsAnother.class);
    return all;
  }

  private static void ownClasses() {
    Set<String> ofTheFace = new HashSet<>();
    for (Method m : SailAsAnother.class.getMethods()) {
      if (m.getDeclaringClass() == SailAsAnother.class) {
        ofTheFace.add(m.getName());
      }
    }
    Check.due("twelve classes at most", allClasses().size() <= 12);
    for (Class<?> c : allClasses()) {
      boolean outer = c == SailAsAnother.class;
      Check.due(c + " is static", outer || Modifier.isStatic(c.getModifiers()));
      Check.due(c + " is not public", outer || !Modifier.isPublic(c.getModifiers()));
      Check.due(c + " has no class of its own", outer || c.getDeclaredClasses().length == 0);
      int fields = 0;
      for (Field f : c.getDeclaredFields()) {
        fields += Modifier.isStatic(f.getModifiers()) ? 0 : 1;
      }
      Check.due(c + " has twenty fields at most", fields <= 20);
      for (Method m : c.getDeclaredMethods()) {
        Check.due(m + " takes seven parameters at most", m.getParameterCount() <= 7);
        boolean own = !outer || Modifier.isPrivate(m.getModifiers());
        Check.due(m + " bears no name of the face", !own || !ofTheFace.contains(m.getName()));
      }
    }
  }

  private static void staticFields() {
    for (Class<?> c : allClasses()) {
      for (Field f : c.getDeclaredFields()) {
        if (Modifier.isStatic(f.getModifiers())) {
          Check.due(f + " is final", Modifier.isFinal(f.getModifiers()));
          Check.due(f + " is a number", f.getType() == int.class || f.getType() == long.class);
        }
      }
    }
  }

  private static void source() throws Exception {
    String text = Files.readString(Path.of("src/main/java/SailAsAnother.java"));
    Check.due("signs 1 to 127 alone", text.chars().allMatch(c -> c > 0 && c < 128));
    String code = text.replaceAll("(?s)/\\*.*?\\*/", " ").replaceAll("//[^\n]*", " ");
    for (String word : FORBIDDEN) {
      Check.due("no " + word, !Pattern.compile("\\b" + Pattern.quote(word) + "\\b").matcher(code).find());
    }
    Check.due("no lambda", !code.contains("->"));
    Check.due("no method reference", !code.contains("::"));
    Check.due("no annotation", !code.contains("@"));
    Check.due("nothing Exact", !code.contains("Exact"));
    Matcher imports = Pattern.compile("import ([^;]+);").matcher(code);
    while (imports.find()) {
      Check.due("import " + imports.group(1), imports.group(1).equals("java.util.Arrays"));
    }
    Matcher library = Pattern.compile("\\b(System|Arrays|Math|Integer|Long)\\.(\\w+)").matcher(code);
    Set<String> known = Set.of("System.arraycopy", "Arrays.fill", "Math.max", "Math.min", "Integer.bitCount");
    while (library.find()) {
      Check.due("library: " + library.group(), known.contains(library.group()));
    }
    shortMethods(text);
  }

  private static void shortMethods(String text) {
    int begun = -1;
    String[] lines = text.split("\n");
    for (int k = 0; k < lines.length; k++) {
      boolean head = lines[k].matches(" {2,4}[^ /*}].*\\) \\{") && !lines[k].trim().matches("(if|for|switch).*");
      if (head) {
        begun = k;
      }
      if (begun >= 0 && lines[k].matches(" {2,4}\\}")) {
        Check.due("sixty lines at most: " + lines[begun].trim(), k - begun < 60);
        begun = -1;
      }
    }
  }
}
