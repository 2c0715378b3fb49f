import java.lang.reflect.Constructor;
import java.lang.reflect.Field;
import java.lang.reflect.Method;
import java.lang.reflect.Modifier;
import java.nio.file.Files;
import java.nio.file.Path;
import java.util.HashSet;
import java.util.Set;
import java.util.TreeSet;
import java.util.regex.Matcher;
import java.util.regex.Pattern;

/** The rules of LANGUAGE.md that can be seen in the source or in the class, and the document's face. */
public final class RulesTest {
  private static int wrong = 0;
  private static void rule(boolean holds, String what) {
    if (!holds) { wrong++; System.out.println("broken: " + what); }
  }

  private static final String FACE = "back(1) best(3) book(2) call(2) clash(1) cool(0) count(1) crowd(1) dawns(2) feed(5) forget(0) "
      + "heatIn(1) hidden(3) hold(1) hours(1) lend(3) lentIn(3) loan(3) longFrom(3) look(2) move(2) near(2) place(0) read(0) "
      + "restore(1) rich(2) seat(2) sight(3) stands(1) sure(2) tell(3) tells(4) thing(2) umbrellas(2) undo(0) worth(4) year(4)";

  public static void main(String[] args) throws Exception {
    face();
    String source = Files.readString(Path.of(System.getProperty("source", "src/main/java/MirageLoans.java")));
    rule(source.chars().allMatch(c -> c == '\n' || c >= 32 && c < 127), "signs 1 to 127 alone");
    words(source);
    methods(source.split("\n"));
    System.out.println(wrong == 0 ? "all rules are kept" : wrong + " rules are broken");
    if (wrong != 0) System.exit(1);
  }

  private static void face() throws Exception {
    Class<MirageLoans> it = MirageLoans.class;
    rule(Modifier.isPublic(it.getModifiers()) && Modifier.isFinal(it.getModifiers()), "public and final");
    Set<String> found = new TreeSet<>();
    Set<String> names = new HashSet<>();
    for (Method m : it.getDeclaredMethods())
      if (!Modifier.isPrivate(m.getModifiers())) { found.add(m.getName() + "(" + m.getParameterCount() + ")"); names.add(m.getName()); }
    rule(String.join(" ", found).equals(FACE), "the face: " + String.join(" ", found));
    for (String name : new String[] {"move", "undo", "hold", "restore"})
      for (Method m : it.getDeclaredMethods()) if (m.getName().equals(name)) rule(m.getReturnType() == boolean.class, name + " is boolean");
    for (Constructor<?> c : it.getDeclaredConstructors()) rule(c.getParameterCount() == 0 && Modifier.isPublic(c.getModifiers()), "the constructor");
    int classes = 1;
    staticFields(it, true);
    for (Class<?> inner : it.getDeclaredClasses()) {
      classes++;
      rule(Modifier.isStatic(inner.getModifiers()) && !Modifier.isPublic(inner.getModifiers()), inner + " is static and not public");
      staticFields(inner, false);
      for (Method m : inner.getDeclaredMethods()) rule(!names.contains(m.getName()), inner + " has a method of the face's name: " + m.getName());
    }
    for (Method m : it.getDeclaredMethods())
      if (Modifier.isPrivate(m.getModifiers())) rule(!names.contains(m.getName()), "a private method of the face's name: " + m.getName());
    rule(classes <= 12, "twelve classes");
  }

  private static void staticFields(Class<?> it, boolean isFace) {
    int fields = 0;
    for (Field f : it.getDeclaredFields()) {
      boolean isConstant = Modifier.isStatic(f.getModifiers());
      fields += isConstant ? 0 : 1;
      rule(!isConstant || Modifier.isFinal(f.getModifiers()) && (f.getType().isPrimitive() || f.getType() == String.class), "static " + f);
      rule(!isFace || Modifier.isPrivate(f.getModifiers()) || f.getName().equals("NONE"), "private " + f);
    }
    rule(fields <= 20, it + " has " + fields + " fields");
  }

  private static void words(String source) {
    String code = source.replaceAll("(?s)/\\*.*?\\*/", " ").replaceAll("//[^\n]*", " ").replaceAll("\"[^\"\n]*\"", "\"\"");
    for (String word : new String[] {"throw", "throws", "try", "catch", "synchronized", "assert", "import", "package", "native", "volatile",
        "Object", "var", "record", "equals", "hashCode", "getClass", "Exact", "Thread", "Random", "->", "::"})
      rule(!Pattern.compile(word.matches("\\w+") ? "\\b" + word + "\\b" : Pattern.quote(word)).matcher(code).find(), "no " + word);
    Matcher calls = Pattern.compile("\\b(Math|Integer|System|Arrays|Long|String|SIGNS|WORDS)\\s*\\.\\s*(\\w+)").matcher(code);
    Set<String> allowed = Set.of("Math.abs", "Math.max", "Math.min", "Integer.bitCount", "System.arraycopy", "SIGNS.indexOf", "WORDS.length", "WORDS.charAt");
    while (calls.find()) rule(allowed.contains(calls.group(1) + "." + calls.group(2)), "library: " + calls.group());
    Matcher made = Pattern.compile("\\bnew (\\w+)").matcher(code);
    Set<String> own = Set.of("int", "long", "byte", "boolean", "Tape", "Tokens", "Grammar", "Laws", "Flat", "State", "Past", "Told");
    while (made.find()) rule(own.contains(made.group(1)), "made: " + made.group());
  }

  private static void methods(String[] lines) {
    Pattern head = Pattern.compile("^( {4,8})(?:public |private |static |final )*[\\w\\[\\]]+ (\\w+)\\((.*)\\) \\{$");
    for (int i = 0; i < lines.length; i++) {
      rule(lines[i].length() <= 140, "line " + (i + 1) + " is long");
      Matcher m = head.matcher(lines[i]);
      if (!m.matches()) continue;
      rule(m.group(3).split(",").length <= 7, m.group(2) + " takes at most seven");
      int end = i;
      while (end < lines.length && !lines[end].equals(m.group(1) + "}")) end++;
      rule(end - i <= 60, m.group(2) + " has " + (end - i) + " lines");
    }
  }
}
