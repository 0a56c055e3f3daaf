import java.lang.reflect.Method;
import java.lang.reflect.Modifier;
import java.nio.file.Files;
import java.nio.file.Paths;

/** The lines of README.md compile, answer what the page says, and leave no call of the face out. */
public final class ReadmeTest {
    private static final Check CHECK = new Check();
    private static final String FENCE = "```";

    public static void main(String[] args) throws Exception {
        answers();
        sameLines();
        allCalls();
        allTests();
        CHECK.end();
    }

    /** The first lines are those of README.md, sign by sign: sameLines() sees to it. */
    private static void answers() {
        OverrunHouse house = new OverrunHouse();
        int cream = house.ingredient(250, 60, 0, 20, 1);
        int sugar = house.ingredient(0, 0, 1000, 3, 0);
        int mix = house.mix(cream, 100);
        house.put(mix, sugar, 25);
        boolean isProved = house.heat(mix, 80, 15);
        house.pass(4);
        int batch = house.run(0, mix, 30, 90);
        house.harden(batch, 10);
        int store = house.store(-25);
        house.lay(batch, store);
        double crystal = house.wouldBe(batch, 48);
        int gain = house.sell(batch, 12);
        int litres = house.call(cream);
        CHECK.same("proved", isProved, true);
        CHECK.same("kilos", house.ofMix(mix, 0), 125);
        CHECK.same("batch", batch, 0);
        CHECK.same("crystal", crystal, 22.5);
        CHECK.same("gain", gain, 636);
        CHECK.same("litres", litres, 53);
    }

    private static String text(String file) throws Exception {
        return new String(Files.readAllBytes(Paths.get(file)));
    }

    private static void sameLines() throws Exception {
        String[] parts = text("README.md").split(FENCE);
        CHECK.same("one block of code", parts.length, 3);
        String lines = parts[1].substring("java\n".length());
        String indented = "        " + lines.trim().replace("\n", "\n        ") + "\n";
        CHECK.same("lines of README.md", text("src/test/java/ReadmeTest.java").contains(indented),
                true);
    }

    private static void allCalls() throws Exception {
        String readme = text("README.md");
        for (Method method : OverrunHouse.class.getDeclaredMethods()) {
            if (Modifier.isPublic(method.getModifiers())) {
                String row = "| `" + method.getName() + "(";
                CHECK.same("README.md has " + row, readme.contains(row), true);
            }
        }
    }

    private static void allTests() throws Exception {
        String readme = text("README.md");
        String[] files = Paths.get("src/test/java").toFile().list();
        CHECK.same("there are tests", files != null && files.length > 0, true);
        for (String file : files == null ? new String[0] : files) {
            String name = file.substring(0, file.length() - ".java".length());
            CHECK.same("README.md has " + name, readme.contains("`" + name), true);
        }
    }
}
