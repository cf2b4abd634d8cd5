import java.lang.reflect.Constructor;
import java.lang.reflect.Field;
import java.lang.reflect.Method;
import java.lang.reflect.Modifier;
import java.nio.charset.StandardCharsets;
import java.nio.file.Files;
import java.nio.file.Path;
import java.util.HashSet;
import java.util.Set;
import java.util.TreeSet;
import java.util.regex.Matcher;
import java.util.regex.Pattern;

/** The public face, and those rules of LANGUAGE.md that can be seen from outside or in the text. */
public final class FaceTest {
  private static final Due due = new Due("FaceTest");
  private static final String[] METHODS = {
    "int mirror(int,int)", "int light(int,int,int)", "int board(int,int,int,int)", "int set(int,int)",
    "int rest(int,int)", "int spot(int,int)", "int table(int,int,int)", "int poke(int,int,int,int,int)",
    "int told(int,int,int)", "int dead(int,boolean)", "int seen()", "long bend(int,int)", "int whole(int)",
    "int nearest(int)", "long off()", "int start()", "int stop()", "int frames(int)", "int state(int)",
    "int units(int,int)", "int shed()", "int log(int,int)", "int loop(int,int,int,int,int)", "int steady(int)",
    "int unsteady(int,int)", "int cell(int,int,int)", "int wind(int,int)", "int foretell(int,int)",
    "int guess(int,int,int)", "int sheet(int,int,int)", "int drop(int)", "int item(int,int,int,int)",
    "int layer(int,int,int,int)"};
  private static final String[] CONSTANTS = {"BAD", "NOT", "FULL", "NONE", "NULL", "CAST", "INDEX", "SIZE"};
  private static final int[] VALUES = {-1, -2, -3, -4, -11, -12, -13, -14};

  public static void main(String[] args) throws Exception {
    document();
    face();
    constants();
    inside();
    text();
    due.end();
  }

  /** What this test looks for is what the document writes, where that is at hand. */
  private static void document() throws Exception {
    Path file = Path.of("../shared/DOC.md");
    if (!Files.isReadable(file)) {
      System.out.println("no document at " + file + ": the face is not looked up");
      return;
    }
    Matcher block = Pattern.compile("(?s)## The public face\\s+```java\n(.*?)```").matcher(Files.readString(file, StandardCharsets.UTF_8));
    due.holds("the document has a face", block.find());
    Set<String> methods = new TreeSet<>();
    Matcher method = Pattern.compile("public (int|long) (\\w+)\\(([^)]*)\\);").matcher(block.group(1));
    while (method.find()) {
      methods.add(method.group(1) + " " + method.group(2) + "(" + method.group(3).replaceAll(" \\w+(?=,|$)", "").replace(" ", "") + ")");
    }
    due.holds("the document's methods are " + methods, methods.equals(new TreeSet<>(Set.of(METHODS))));
    for (int i = 0; i < CONSTANTS.length; i++) {
      due.holds("the document has " + CONSTANTS[i], block.group(1).contains(" " + CONSTANTS[i] + " = " + VALUES[i]));
    }
    // the class, the constants' line, the constructor and the methods: nothing else is public
    due.is("public lines", block.group(1).split("public ").length - 1, METHODS.length + 3);
  }

  private static void face() {
    Class<?> c = StillStars.class;
    due.holds("final", Modifier.isFinal(c.getModifiers()));
    due.holds("public", Modifier.isPublic(c.getModifiers()));
    Set<String> want = new TreeSet<>(Set.of(METHODS));
    Set<String> have = new TreeSet<>();
    Set<String> names = new HashSet<>();
    for (Method m : c.getDeclaredMethods()) {
      if (Modifier.isPrivate(m.getModifiers())) {
        continue;
      }
      due.holds(m + " is public and no more", Modifier.isPublic(m.getModifiers()) && !Modifier.isStatic(m.getModifiers()));
      StringBuilder text = new StringBuilder(m.getReturnType() + " " + m.getName() + "(");
      for (int i = 0; i < m.getParameterCount(); i++) {
        text.append(i == 0 ? "" : ",").append(m.getParameterTypes()[i]);
      }
      have.add(text + ")");
      names.add(m.getName());
    }
    due.holds("the methods are " + have, have.equals(want));
    for (Class<?> one : classes()) {
      for (Method m : one.getDeclaredMethods()) {
        boolean ownFace = one == c && Modifier.isPublic(m.getModifiers());
        due.holds(one + " " + m.getName() + " bears no public name", ownFace || !names.contains(m.getName()));
        due.holds(one + " " + m.getName() + " has at most seven parameters", m.getParameterCount() <= 7);
      }
    }
    Constructor<?>[] made = c.getDeclaredConstructors();
    due.is("constructors", made.length, 1);
    due.holds("it is public", Modifier.isPublic(made[0].getModifiers()) && made[0].getParameterCount() == 0);
  }

  private static void constants() throws Exception {
    Set<String> have = new TreeSet<>();
    for (Field f : StillStars.class.getDeclaredFields()) {
      if (!Modifier.isPrivate(f.getModifiers())) {
        have.add(f.getName());
        due.holds(f + " is a public constant", f.toString().startsWith("public static final int "));
      }
    }
    due.holds("the constants are " + have, have.equals(new TreeSet<>(Set.of(CONSTANTS))));
    for (int i = 0; i < CONSTANTS.length; i++) {
      due.is(CONSTANTS[i], StillStars.class.getField(CONSTANTS[i]).getInt(null), VALUES[i]);
    }
  }

  private static Class<?>[] classes() {
    Class<?>[] inside = StillStars.class.getDeclaredClasses();
    Class<?>[] all = new Class<?>[inside.length + 1];
    all[0] = StillStars.class;
    System.arraycopy(inside, 0, all, 1, inside.length);
    return all;
  }

  private static void inside() {
    due.holds("at most twelve classes", classes().length <= 12);
    for (Class<?> one : classes()) {
      int fields = 0;
      for (Field f : one.getDeclaredFields()) {
        boolean constant = Modifier.isStatic(f.getModifiers());
        fields += constant ? 0 : 1;
        due.holds(f + " is final, if static", !constant || Modifier.isFinal(f.getModifiers()));
      }
      due.holds(one + " has at most twenty fields", fields <= 20);
      if (one != StillStars.class) {
        int m = one.getModifiers();
        due.holds(one + " is static", Modifier.isStatic(m));
        due.holds(one + " is not public", !Modifier.isPublic(m) && !Modifier.isProtected(m));
        due.is(one + " has no classes inside", one.getDeclaredClasses().length, 0);
      }
    }
  }

  private static void text() throws Exception {
    Path file = Path.of("src/main/java/StillStars.java");
    String whole = Files.readString(file, StandardCharsets.ISO_8859_1);
    String code = whole.replaceAll("(?s)/\\*.*?\\*/", " ").replaceAll("//[^\n]*", " ");
    String[] words = {"throw", "throws", "try", "catch", "synchronized", "assert", "package", "native", "volatile",
      "transient", "strictfp", "protected", "var", "yield", "record", "sealed", "finally"};
    for (String word : words) {
      due.holds("no " + word, !Pattern.compile("\\b" + word + "\\b").matcher(code).find());
    }
    due.holds("no lambda", !code.contains("->"));
    due.holds("no method reference", !code.contains("::"));
    due.holds("no annotation", !code.contains("@"));
    due.holds("no text", !code.contains("\""));
    Matcher imports = Pattern.compile("import[^;]*;").matcher(code);
    while (imports.find()) {
      due.holds(imports.group(), imports.group().equals("import java.util.Arrays;"));
    }
    Matcher library = Pattern.compile("\\b(Math|Integer|Long|Arrays|System)\\.(\\w+)").matcher(code);
    Set<String> allowed = Set.of("Math.max", "Math.min", "Math.abs", "Math.floorMod", "Integer.bitCount",
        "Arrays.fill", "System.arraycopy");
    while (library.find()) {
      due.holds(library.group() + " is of the list", allowed.contains(library.group()));
    }
    for (char c : whole.toCharArray()) {
      if (c >= 127 || c < ' ' && c != '\n') {
        due.is("a sign", c, ' ');
      }
    }
    // a method's lines: from one opening at the second or third level to its end
    Matcher methods = Pattern.compile("(?m)^( {4}| {8})[^\\s/*}].*\\(.*\\) \\{\n((?!\\1\\}).*\n)*\\1\\}").matcher(whole);
    int found = 0;
    while (methods.find()) {
      found++;
      long lines = methods.group().chars().filter(c -> c == '\n').count() + 1;
      due.holds("a short method: " + methods.group().trim().split("\n")[0], lines <= 60);
    }
    due.holds("methods were found", found > METHODS.length);
  }
}
