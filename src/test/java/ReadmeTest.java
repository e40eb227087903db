import java.io.File;
import java.io.IOException;
import java.lang.reflect.Method;
import java.lang.reflect.Modifier;
import java.nio.file.Files;
import java.nio.file.Path;

/** README.md names every call and every file of the tests. Whether its examples hold, .ci/run asks ReadmeExamples. */
public final class ReadmeTest {
    private static final Due DUE = new Due("ReadmeTest");

    public static void main(String[] args) throws IOException {
        String readme = Files.readString(Path.of("README.md"));
        for (Method method : ClothesLine.class.getDeclaredMethods()) {
            if (Modifier.isPublic(method.getModifiers())) {
                DUE.is("README.md names " + method.getName(), readme.contains("`" + method.getName() + "("), true);
            }
        }
        for (File file : new File("src/test/java").listFiles()) {
            String name = file.getName().replace(".java", "");
            DUE.is("README.md names " + name, readme.contains("`" + name), true);
        }
        DUE.end();
    }
}
