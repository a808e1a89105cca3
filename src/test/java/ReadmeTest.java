import java.io.IOException;
import java.lang.reflect.Method;
import java.lang.reflect.Modifier;
import java.nio.file.Files;
import java.nio.file.Path;

/** README.md: its examples answer what it says, and its list names every method. */
final class ReadmeTest {
    private static final Checks CHECKS = new Checks();

    public static void main(String[] args) throws IOException {
        String page = Files.readString(Path.of("README.md"));
        firstExample(page);
        setupText(page);
        everyMethodIsNamed(page);
        CHECKS.end();
    }

    private static void firstExample(String page) {
        String words = "scaler.appendInput(0x706F6F6C, 0x20312039, 0x2032303B, 0x6C6F6164, 0x2033303B);";
        CHECKS.due("README: the words of the example", true, () -> page.contains(words));
        PoolScaler scaler = new PoolScaler();
        CHECKS.due("README: 20 bytes", 20, () -> scaler.appendInput(0x706F6F6C, 0x20312039, 0x2032303B, 0x6C6F6164, 0x2033303B));
        CHECKS.due("README: the pools", 1, scaler::loadPools);
        CHECKS.due("README: CAP of the text", 20, () -> scaler.pool(0, 2));
        CHECKS.due("README: load of the text", 30, () -> scaler.planned(0, 0));
        CHECKS.due("README: come and gone", 2, () -> scaler.run(5));
        CHECKS.due("README: the size", 3, () -> scaler.pool(0, 3));
        CHECKS.due("README: missed", 0L, () -> scaler.missedIn(0, 20));
        CHECKS.due("README: undone", 0, scaler::undo);
        CHECKS.due("README: as before the ticks", 0, () -> scaler.count(1));
    }

    private static void setupText(String page) {
        int begin = page.indexOf("```text\n") + "```text\n".length();
        String text = page.substring(begin, page.indexOf("```", begin));
        CHECKS.due("README: the setup", 2, () -> Checks.load(new PoolScaler(), text));
    }

    private static void everyMethodIsNamed(String page) {
        for (Method method : PoolScaler.class.getDeclaredMethods()) {
            if (Modifier.isPublic(method.getModifiers())) {
                String name = "`" + method.getName() + "`";
                CHECKS.due("README: names " + name, true, () -> page.contains(name));
            }
        }
    }
}
