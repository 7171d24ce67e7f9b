import java.io.File;
import java.lang.reflect.Method;
import java.lang.reflect.Modifier;
import java.nio.charset.StandardCharsets;
import java.nio.file.Files;
import java.nio.file.Path;
import java.util.ArrayList;
import java.util.Comparator;
import java.util.List;
import java.util.concurrent.TimeUnit;
import java.util.stream.Stream;

/** README.md: its commands run as it says, its code is the example's, and it leaves out no call and no test. */
public final class ReadmeTest {
  // .ci/run runs this test, so that it can't be run from here once more
  static final String ALL_TESTS = "./.ci/run";

  record Block(String kind, String text) { }

  public static void main(String[] args) throws Exception {
    String readme = Files.readString(Path.of("README.md"));
    List<Block> blocks = blocksOf(readme);
    codeIsTheExamples(blocks);
    commandsRun(blocks);
    everyCallIsThere(readme);
    everyTestIsThere(readme);
    Desk.end();
  }

  static List<Block> blocksOf(String readme) {
    List<Block> blocks = new ArrayList<>();
    String kind = null;
    StringBuilder text = new StringBuilder();
    for (String line : readme.split("\n", -1)) {
      if (!line.startsWith("```")) {
        text.append(line).append('\n');
      } else if (kind == null) {
        kind = line.substring(3);
        text.setLength(0);
      } else {
        blocks.add(new Block(kind, text.toString()));
        kind = null;
      }
    }
    Desk.due("a block of README.md that is not closed", kind == null ? 0 : 1, 0);
    return blocks;
  }

  static void codeIsTheExamples(List<Block> blocks) throws Exception {
    String example = Files.readString(Path.of("src/example/java/Example.java"));
    int pieces = 0;
    for (Block block : blocks) {
      if (!block.kind.equals("java")) continue;
      pieces++;
      Desk.due("is in Example.java: " + block.text, example.contains(block.text) ? 1 : 0, 1);
    }
    Desk.due("README.md has code", pieces > 0 ? 1 : 0, 1);
  }

  static void commandsRun(List<Block> blocks) throws Exception {
    Path room = Files.createTempDirectory("readme");
    boolean tellsAllTests = false;
    int commands = 0;
    for (int i = 0; i < blocks.size(); i++) {
      if (!blocks.get(i).kind.equals("sh")) continue;
      String script = blocks.get(i).text;
      if (script.trim().equals(ALL_TESTS)) {
        tellsAllTests = true;
        Desk.due(ALL_TESTS + " can be run", new File(ALL_TESTS).canExecute() ? 1 : 0, 1);
        continue;
      }
      commands++;
      String printed = outputOf(script, room);
      boolean told = i + 1 < blocks.size() && blocks.get(i + 1).kind.equals("text");
      if (told) Desk.due("output of " + script, printed, blocks.get(i + 1).text);
    }
    Desk.due("README.md tells " + ALL_TESTS, tellsAllTests ? 1 : 0, 1);
    Desk.due("README.md has other commands", commands > 0 ? 1 : 0, 1);
    remove(room);
  }

  static String outputOf(String script, Path room) throws Exception {
    ProcessBuilder shell = new ProcessBuilder("bash", "-e", "-c", script);
    shell.environment().put("TMPDIR", room.toString());
    shell.redirectErrorStream(true);
    File output = room.resolve("output").toFile();
    shell.redirectOutput(output);
    Process process = shell.start();
    boolean ended = process.waitFor(5, TimeUnit.MINUTES);
    if (!ended) process.destroyForcibly();
    String printed = Files.readString(output.toPath(), StandardCharsets.ISO_8859_1);
    int code = ended ? process.exitValue() : -1;
    Desk.due("exit code of " + script + printed, code, 0);
    return printed;
  }

  static void remove(Path room) throws Exception {
    try (Stream<Path> all = Files.walk(room)) {
      all.sorted(Comparator.reverseOrder()).map(Path::toFile).forEach(File::delete);
    }
  }

  static void everyCallIsThere(String readme) {
    for (Method method : HarbourDesk.class.getDeclaredMethods()) {
      if (!Modifier.isPublic(method.getModifiers())) continue;
      Desk.due("README.md tells " + method.getName(), readme.contains("\n| `" + method.getName() + "(") ? 1 : 0, 1);
    }
  }

  static void everyTestIsThere(String readme) {
    File[] files = new File("src/test/java").listFiles();
    for (File file : files == null ? new File[0] : files) {
      String name = file.getName().replace(".java", "");
      if (!name.endsWith("Test")) continue;
      Desk.due("README.md tells " + name, readme.contains("\n| `" + name + "` |") ? 1 : 0, 1);
    }
  }
}
