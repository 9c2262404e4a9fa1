import java.io.ByteArrayOutputStream;
import java.io.IOException;
import java.io.PrintStream;
import java.lang.reflect.Method;
import java.net.URL;
import java.net.URLClassLoader;
import java.nio.file.Files;
import java.nio.file.Path;
import javax.tools.ToolProvider;

/** The example of README.md: it compiles beside the class alone, and prints what the page says. */
public final class ReadmeTest {
    private static String page = "";

    public static void main(String[] args) throws IOException, ReflectiveOperationException {
        page = Files.readString(Path.of("README.md"));
        Path room = Files.createTempDirectory("readme");
        Path example = room.resolve("Example.java");
        Files.writeString(example, block("java"));
        int code = ToolProvider.getSystemJavaCompiler().run(null, null, null, "-Xlint:all,-cast", "-Werror", "-d",
            room.toString(), "src/main/java/HollowWall.java", example.toString());
        Checks.same("javac", code, 0);
        if (code == 0) {
            compare(run(room).split("\n"), block("text").split("\n"));
        }
        Checks.end();
    }

    private static String block(String kind) {
        int begin = page.indexOf("```" + kind + "\n");
        int end = page.indexOf("\n```", begin);
        Checks.holds("a block of " + kind, begin >= 0 && end > begin);
        return page.substring(begin + kind.length() + 4, end + 1);
    }

    private static String run(Path room) throws IOException, ReflectiveOperationException {
        PrintStream out = System.out;
        ByteArrayOutputStream told = new ByteArrayOutputStream();
        // Without a parent, so that it is the class compiled beside the example that answers.
        URL[] places = {room.toUri().toURL()};
        try (URLClassLoader loader = new URLClassLoader(places, ClassLoader.getPlatformClassLoader())) {
            Method main = loader.loadClass("Example").getMethod("main", String[].class);
            System.setOut(new PrintStream(told, true));
            main.invoke(null, (Object) new String[0]);
        } finally {
            System.setOut(out);
        }
        return told.toString();
    }

    private static void compare(String[] got, String[] due) {
        Checks.same("lines", got.length, due.length);
        for (int i = 0; i < Math.min(got.length, due.length); i++) {
            Checks.holds("line " + i + " is " + got[i], got[i].equals(due[i]));
        }
    }
}
