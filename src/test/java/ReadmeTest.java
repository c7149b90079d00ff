import java.io.IOException;
import java.nio.file.Files;
import java.nio.file.Path;
import java.util.regex.Matcher;
import java.util.regex.Pattern;

/** The words of README.md's example, put where it says, answer what it says. */
public final class ReadmeTest {
    private static final Pattern LOAD = Pattern.compile("core\\.load\\((\\d+), 0x([0-9A-F]{8})\\);");

    public static void main(String[] args) throws IOException {
        RvCore core = new RvCore(4096, 16);
        Matcher loads = LOAD.matcher(Files.readString(Path.of("README.md")));
        int found = 0;
        while (loads.find()) {
            found++;
            int word = Integer.parseUnsignedInt(loads.group(2), 16);
            Due.due(loads.group(), core.load(Integer.parseInt(loads.group(1)), word), true);
        }
        Due.due("how many words the example has", found, 4);
        Due.due("run(100)", core.run(100), 5);
        Due.due("told(4)", core.told(4), RvCore.WAITS);
        Due.due("outSize()", core.outSize(), 1);
        Due.due("out(0)", core.out(0), 65);
        Due.end();
    }
}
