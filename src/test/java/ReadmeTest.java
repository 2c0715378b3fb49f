import java.io.IOException;
import java.lang.reflect.Method;
import java.lang.reflect.Modifier;
import java.net.URL;
import java.net.URLClassLoader;
import java.nio.file.Files;
import java.nio.file.Path;
import java.util.ArrayList;
import java.util.Comparator;
import java.util.List;
import java.util.regex.Matcher;
import java.util.regex.Pattern;
import java.util.stream.Stream;
import javax.tools.JavaCompiler;
import javax.tools.ToolProvider;

/** The calls that README.md shows are compiled as they stand there and made: each must answer what its comment begins with. */
public final class ReadmeTest {
  private static final Path README = Path.of("README.md");
  private static final Path TESTS = Path.of("src", "test", "java");
  private static final String MADE = "MirageLoans flat = new MirageLoans();";
  private static final Pattern CALL = Pattern.compile("((?:flat\\.\\w+|feedText)\\(.*\\));\\s+// (-?\\d+|true|false)(: .*)?");
  private static final Pattern BYTES = Pattern.compile("flat\\.feed\\((.*)\\)");
  private static final Pattern QUOTED = Pattern.compile("\"(.{20})\"");
  private static final int MOST_CALLS = 512;

  private static int wrong = 0;
  private static void fail(String what) {
    wrong++;
    System.out.println(what);
  }

  /** What is declared in README.md's blocks, and what is called there, as the body of a method. */
  private final StringBuilder declared = new StringBuilder();
  private final StringBuilder called = new StringBuilder();
  private int calls = 0;

  public static void main(String[] args) throws Exception {
    List<String> lines = Files.readAllLines(README);
    new ReadmeTest().blocks(lines);
    toldOfTests(String.join("\n", lines));
    System.out.println(wrong == 0 ? "README.md's calls answer as it says" : wrong + " of README.md is not so");
    if (wrong != 0) System.exit(1);
  }

  private void blocks(List<String> lines) throws Exception {
    for (int i = 0; i < lines.size(); i++) {
      if (!lines.get(i).equals("```java")) continue;
      boolean declares = i + 1 < lines.size() && lines.get(i + 1).startsWith("static ");
      for (i++; i < lines.size() && !lines.get(i).equals("```"); i++) {
        if (declares) declared.append(lines.get(i)).append('\n');
        else if (!lines.get(i).isBlank()) line(i + 1, lines.get(i));
      }
    }
    if (calls > MOST_CALLS) fail("README.md shows " + calls + " calls on one object");
    for (Method m : MirageLoans.class.getDeclaredMethods())
      if (Modifier.isPublic(m.getModifiers()) && !called.toString().contains(", flat." + m.getName() + "("))
        fail("README.md does not show " + m.getName());
    run();
  }

  private void line(int number, String line) {
    Matcher m = CALL.matcher(line);
    if (line.equals(MADE)) {
      called.append(MADE).append('\n');
    } else if (!m.matches()) {
      fail("README.md, line " + number + " shows no call with its answer: " + line);
    } else {
      calls++;
      called.append("due(").append(number).append(", ").append(m.group(1)).append(", ").append(m.group(2)).append(");\n");
      bytes(number, m.group(1), m.group(3) == null ? "" : m.group(3));
    }
  }

  /** Bytes that are shown as ints are the text that is quoted beside them. */
  private static void bytes(int number, String call, String comment) {
    Matcher ints = BYTES.matcher(call);
    if (!ints.matches()) return;
    StringBuilder text = new StringBuilder();
    for (String one : ints.group(1).split(", "))
      for (int shift = 24; shift >= 0; shift -= 8) text.append((char) (Integer.decode(one) >>> shift & 255));
    Matcher quoted = QUOTED.matcher(comment);
    if (!quoted.find() || !quoted.group(1).contentEquals(text)) fail("README.md, line " + number + ": the bytes are '" + text + "'");
  }

  private void run() throws Exception {
    JavaCompiler compiler = ToolProvider.getSystemJavaCompiler();
    if (compiler == null) { fail("there is no compiler"); return; }
    Path dir = Files.createTempDirectory("readme");
    try {
      Path file = dir.resolve("ReadmeUse.java");
      Files.writeString(file, "public final class ReadmeUse {\npublic static int wrong = 0;\n" + due("int") + due("boolean") + declared
          + "public static void use() {\n" + called + "}\n}\n");
      String path = System.getProperty("java.class.path");
      if (compiler.run(null, null, null, "-cp", path, "-d", dir.toString(), file.toString()) != 0) { fail("README.md's code is not Java"); return; }
      try (URLClassLoader loader = new URLClassLoader(new URL[] {dir.toUri().toURL()}, ReadmeTest.class.getClassLoader())) {
        Class<?> use = loader.loadClass("ReadmeUse");
        use.getMethod("use").invoke(null);
        wrong += use.getField("wrong").getInt(null);
      }
    } finally {
      remove(dir);
    }
  }

  private static String due(String type) {
    return "static void due(int line, " + type + " got, " + type + " want) {\n"
        + "if (got != want) { wrong++; System.out.println(\"README.md, line \" + line + \": the answer is \" + got + \", not \" + want); }\n}\n";
  }

  private static void remove(Path dir) throws IOException {
    List<Path> all = new ArrayList<>();
    try (Stream<Path> files = Files.walk(dir)) { files.sorted(Comparator.reverseOrder()).forEach(all::add); }
    for (Path one : all) Files.delete(one);
  }

  private static void toldOfTests(String readme) throws IOException {
    if (!readme.contains("`.ci/run`")) fail("README.md does not say how its tests are run");
    try (Stream<Path> files = Files.list(TESTS)) {
      files.map(f -> f.getFileName().toString()).filter(f -> f.endsWith("Test.java")).map(f -> f.replace(".java", ""))
          .filter(f -> !readme.contains("`" + f + "`")).forEach(f -> fail("README.md does not name " + f));
    }
  }
}
