import java.io.File;
import java.net.URL;
import java.net.URLClassLoader;
import java.nio.file.Files;
import java.nio.file.Path;
import javax.tools.ToolProvider;

/**
 * Term 2: sizes are cut at 1000000. No acts are known whose made ones come that far, so copies of the
 * bench and of the plain one that cut at a lower size are held against one another by MadeTest.
 */
public final class CutTest {
  private static final int[] CUTS = {1, 2, 5, 12, 40};
  private static final String TOLD = "1000000";

  public static void main(String[] args) throws Exception {
    for (int cut : CUTS) {
      Path dir = Files.createTempDirectory("cut");
      boolean isReady = copy(Path.of("src/main/java/ActBench.java"), dir, cut)
        && copy(Path.of("src/test/java/PlainBench.java"), dir, cut)
        && compile(dir);
      if (!isReady) {
        System.out.println("no copy that cuts at " + cut);
        System.exit(1);
      }
      System.out.print("cut at " + cut + ": ");
      try (URLClassLoader loader = new URLClassLoader(new URL[] {dir.toUri().toURL()}, ClassLoader.getPlatformClassLoader())) {
        loader.loadClass("MadeTest").getMethod("main", String[].class).invoke(null, (Object) new String[0]);
      }
      remove(dir);
    }
  }

  /** The cut stands in each text once; false if it does not. */
  private static boolean copy(Path from, Path dir, int cut) throws Exception {
    String text = Files.readString(from);
    int at = text.indexOf(TOLD);
    if (at < 0 || text.indexOf(TOLD, at + 1) >= 0) return false;
    Files.writeString(dir.resolve(from.getFileName()), text.replace(TOLD, String.valueOf(cut)));
    return true;
  }

  private static boolean compile(Path dir) {
    return ToolProvider.getSystemJavaCompiler().run(null, null, null, "-sourcepath", dir + File.pathSeparator + "src/test/java", "-d", dir.toString(),
      dir.resolve("ActBench.java").toString(), dir.resolve("PlainBench.java").toString(), "src/test/java/MadeTest.java") == 0;
  }

  private static void remove(Path dir) throws Exception {
    for (File file : dir.toFile().listFiles()) Files.delete(file.toPath());
    Files.delete(dir);
  }
}
