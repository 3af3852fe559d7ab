import java.io.IOException;
import java.lang.reflect.Constructor;
import java.lang.reflect.Field;
import java.lang.reflect.Method;
import java.lang.reflect.Modifier;
import java.nio.charset.StandardCharsets;
import java.nio.file.Files;
import java.nio.file.Path;
import java.util.Arrays;
import java.util.Set;
import java.util.TreeSet;

/** The face is the document's and no more, and the source keeps to those rules of LANGUAGE.md that a text can show. */
public final class FogCutsFace {
  private static final String[] FACE = {"int bank(int,int)", "int cell(int,int,int)", "int set(int,int)",
      "int shape(int,int,int)", "int say(int)", "int wipe()", "int fault()", "int judge(int)", "int done()",
      "int state(int,int)", "int behind(int,int)", "int stands(int)", "int lost(int)", "int through()", "int carved(int)",
      "int nowThen(int,int)", "int dark(int,int)", "int moved(int,int)", "int apart(int)", "int walk(int,int,int)",
      "int wins(int)", "int cut(int)", "int seen(int,int)", "int forget()", "int what(int)", "int where()",
      "long chance(int,int,int,int)", "int year(int,int,int)", "int image(int)", "int restore(int)", "int told(int)"};
  private static final String[] CONSTANTS = {"int NONE", "int UNKNOWN", "int OUTSIDE", "int STATE", "int FULL", "int NO", "long LOST"};
  /** Nothing here is thrown, so nothing is caught; and no library is needed but Math and Integer.bitCount. */
  private static final String[] NOT_THERE = {"import", "package", "throw", "catch", "finally", "try {", "->", "::", "synchronized",
      "assert", "instanceof", "System.", "Object", "List", "Random", "Thread", "native", "transient", "volatile", "@", "Exact",
      "double", "float", "record ", "protected", "static {"};
  private static int wrong = 0;

  private static void say(String what) { wrong++; System.out.println(what); }

  private static String signature(Method m) {
    StringBuilder out = new StringBuilder(m.getReturnType() + " " + m.getName() + "(");
    for (Class<?> type : m.getParameterTypes()) out.append(out.charAt(out.length() - 1) == '(' ? "" : ",").append(type);
    return out.append(")").toString();
  }

  private static void face() {
    Set<String> methods = new TreeSet<>(), constants = new TreeSet<>();
    for (Method m : FogCuts.class.getDeclaredMethods()) {
      if (Modifier.isPublic(m.getModifiers())) methods.add(signature(m));
      else if (!Modifier.isPrivate(m.getModifiers())) say("not private: " + m);
    }
    for (Field f : FogCuts.class.getDeclaredFields()) {
      if (Modifier.isPublic(f.getModifiers())) constants.add(f.getType() + " " + f.getName());
      else if (!Modifier.isPrivate(f.getModifiers())) say("not private: " + f);
    }
    if (!methods.equals(new TreeSet<>(Arrays.asList(FACE)))) say("the methods are " + methods);
    if (!constants.equals(new TreeSet<>(Arrays.asList(CONSTANTS)))) say("the constants are " + constants);
    if (!Modifier.isFinal(FogCuts.class.getModifiers())) say("the class is not final");
    Constructor<?>[] made = FogCuts.class.getDeclaredConstructors();
    if (made.length != 1 || !Modifier.isPublic(made[0].getModifiers()) || made[0].getParameterCount() != 0) say("constructors");
  }

  private static void inside(Class<?> type) {
    Set<String> names = new TreeSet<>();
    for (Method m : FogCuts.class.getDeclaredMethods()) if (Modifier.isPublic(m.getModifiers())) names.add(m.getName());
    for (Method m : type.getDeclaredMethods()) {
      boolean own = type == FogCuts.class && Modifier.isPublic(m.getModifiers());
      if (!own && names.contains(m.getName())) say("a name of the face again: " + m);
      if (m.getParameterCount() > 7) say("too many parameters: " + m);
    }
    int fields = 0;
    for (Field f : type.getDeclaredFields()) {
      boolean fixed = Modifier.isFinal(f.getModifiers());
      if (Modifier.isStatic(f.getModifiers()) && !fixed) say("static and not final: " + f);
      if (!Modifier.isStatic(f.getModifiers())) fields++;
    }
    if (fields > 20) say("too many fields: " + type);
    for (Class<?> nested : type.getDeclaredClasses()) {
      if (!Modifier.isStatic(nested.getModifiers()) || Modifier.isPublic(nested.getModifiers())) say("not so inside: " + nested);
      inside(nested);
    }
  }

  private static void source() throws IOException {
    String text = Files.readString(Path.of("src/main/java/FogCuts.java"), StandardCharsets.ISO_8859_1);
    for (int i = 0; i < text.length(); i++) if (text.charAt(i) > 126) { say("a sign that is not plain, at " + i); break; }
    String code = text.replaceAll("(?s)/\\*.*?\\*/", "").replaceAll("//[^\n]*", "");
    for (String word : NOT_THERE) if (code.contains(word)) say("not to be there: " + word);
    int length = 0;
    for (String line : code.split("\n")) {
      // A member of the class, or of a class inside it, ends where its brace stands alone this far in.
      boolean ends = line.equals("    }") || line.equals("        }") && length > 0 || line.isBlank();
      length = ends ? 0 : length + 1;
      if (length > 60) { say("too long: " + line); break; }
    }
  }

  public static void main(String[] args) throws IOException {
    face();
    inside(FogCuts.class);
    source();
    System.out.println(wrong == 0 ? "the face is the document's" : wrong + " things are not as the rules ask");
    if (wrong != 0) System.exit(1);
  }
}
