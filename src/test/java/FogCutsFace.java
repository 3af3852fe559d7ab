import java.io.IOException;
import java.lang.reflect.Constructor;
import java.lang.reflect.Field;
import java.lang.reflect.Method;
import java.lang.reflect.Modifier;
import java.nio.charset.StandardCharsets;
import java.nio.file.Files;
import java.nio.file.Path;
import java.util.Arrays;
import java.util.Set;
import java.util.TreeSet;
import java.util.regex.Pattern;

/** The face is the document's and no more, and the source keeps to those rules of LANGUAGE.md that a text can show. */
public final class FogCutsFace {
  private static final String[] FACE = {"int bank(int,int)", "int cell(int,int,int)", "int set(int,int)",
      "int shape(int,int,int)", "int say(int)", "int wipe()", "int fault()", "int judge(int)", "int done()",
      "int state(int,int)", "int behind(int,int)", "int stands(int)", "int lost(int)", "int through()", "int carved(int)",
      "int nowThen(int,int)", "int dark(int,int)", "int moved(int,int)", "int apart(int)", "int walk(int,int,int)",
      "int wins(int)", "int cut(int)", "int seen(int,int)", "int forget()", "int what(int)", "int where()",
      "long chance(int,int,int,int)", "int year(int,int,int)", "int image(int)", "int restore(int)", "int told(int)"};
  private static final String[] CONSTANTS = {"int NONE", "int UNKNOWN", "int OUTSIDE", "int STATE", "int FULL", "int NO", "long LOST"};
  /** What LANGUAGE.md rules out by name; what it leaves (exceptions, lists) is free to be there. */
  private static final String[] NOT_THERE = {"\\bpackage\\b", "\\bfinally\\b", "\\bsynchronized\\b", "\\bassert\\b", "::",
      "\\bstatic\\s*\\{", "\\w+Exact\\(", "\\bRandom\\b", "\\bThread\\b", "\\bSystem\\.(?!arraycopy\\b)", "\\bgetMessage\\b",
      "\\bimport\\s+(?!java\\.util\\.(ArrayList|List|Arrays|Iterator|NoSuchElementException)\\s*;)"};
  /** "Some sixty" lines and "some twenty" fields: a few more are no fault. */
  private static final int MOST_LINES = 70, MOST_FIELDS = 25;
  private static int wrong = 0;

  private static void say(String what) { wrong++; System.out.println(what); }

  private static String signature(Method m) {
    StringBuilder out = new StringBuilder(m.getReturnType() + " " + m.getName() + "(");
    for (Class<?> type : m.getParameterTypes()) out.append(out.charAt(out.length() - 1) == '(' ? "" : ",").append(type);
    return out.append(")").toString();
  }

  private static void face() {
    Set<String> methods = new TreeSet<>(), constants = new TreeSet<>();
    for (Method m : FogCuts.class.getDeclaredMethods()) {
      if (Modifier.isPublic(m.getModifiers())) methods.add(signature(m));
      else if (m.isSynthetic()) say("made by a lambda or the like: " + m);
      else if (!Modifier.isPrivate(m.getModifiers())) say("not private: " + m);
    }
    for (Field f : FogCuts.class.getDeclaredFields()) {
      if (Modifier.isPublic(f.getModifiers())) constants.add(f.getType() + " " + f.getName());
      else if (!Modifier.isPrivate(f.getModifiers())) say("not private: " + f);
    }
    if (!methods.equals(new TreeSet<>(Arrays.asList(FACE)))) say("the methods are " + methods);
    if (!constants.equals(new TreeSet<>(Arrays.asList(CONSTANTS)))) say("the constants are " + constants);
    if (!Modifier.isFinal(FogCuts.class.getModifiers())) say("the class is not final");
    Constructor<?>[] made = FogCuts.class.getDeclaredConstructors();
    if (made.length != 1 || !Modifier.isPublic(made[0].getModifiers()) || made[0].getParameterCount() != 0) say("constructors");
  }

  private static void names() {
    Set<String> names = new TreeSet<>();
    for (Method m : FogCuts.class.getDeclaredMethods()) if (Modifier.isPublic(m.getModifiers())) names.add(m.getName());
    for (Method m : FogCuts.class.getDeclaredMethods()) {
      if (!Modifier.isPublic(m.getModifiers()) && names.contains(m.getName())) say("a name of the face again: " + m);
    }
  }

  private static void inside(Class<?> type) {
    for (Method m : type.getDeclaredMethods()) if (m.getParameterCount() > 7) say("too many parameters: " + m);
    int fields = 0;
    for (Field f : type.getDeclaredFields()) {
      boolean fixed = Modifier.isFinal(f.getModifiers());
      if (Modifier.isStatic(f.getModifiers()) && !fixed) say("static and not final: " + f);
      if (!Modifier.isStatic(f.getModifiers())) fields++;
    }
    if (fields > MOST_FIELDS) say("too many fields: " + type);
    for (Class<?> nested : type.getDeclaredClasses()) {
      boolean hidden = !Modifier.isPublic(nested.getModifiers()) && !Modifier.isProtected(nested.getModifiers());
      if (!hidden) say("not hidden inside: " + nested);
      inside(nested);
    }
  }

  private static void source() throws IOException {
    String text = Files.readString(Path.of("src/main/java/FogCuts.java"), StandardCharsets.ISO_8859_1);
    String code = text.replaceAll("(?s)/\\*.*?\\*/", "").replaceAll("//[^\n]*", "");
    for (int i = 0; i < code.length(); i++) if (code.charAt(i) > 127) { say("a sign that is not plain, at " + i); break; }
    for (String word : NOT_THERE) if (Pattern.compile(word).matcher(code).find()) say("not to be there: " + word);
    int length = 0;
    for (String line : code.split("\n")) {
      // A member of the class, or of a class inside it, ends where its brace stands alone this far in.
      boolean ends = line.equals("  }") || line.equals("    }") || line.equals("        }") && length > 0 || line.isBlank();
      length = ends ? 0 : length + 1;
      if (length > MOST_LINES) { say("too long: " + line); break; }
    }
  }

  public static void main(String[] args) throws IOException {
    face();
    names();
    inside(FogCuts.class);
    source();
    System.out.println(wrong == 0 ? "the face is the document's" : wrong + " things are not as the rules ask");
    if (wrong != 0) System.exit(1);
  }
}
