import java.io.IOException;
import java.nio.file.Files;
import java.nio.file.Path;
import java.util.ArrayList;
import java.util.List;

/** The example in README.md: each line of it is called here, in its order, and answers what stands behind it. */
public final class ReadmeTest {
    private static final Check c = new Check("ReadmeTest");
    private static final List<String> lines = example();
    private static int told = 0;

    public static void main(String[] args) {
        Disc disc = new Disc();
        shows("PitHouse disc = new PitHouse();", "");
        shows("disc.session();", disc.session());
        shows("disc.track(1, 6);", disc.track(1, 6));
        shows("disc.write(0, 0x123456789L);", disc.write(0, 0x123456789L));
        shows("disc.write(0, 0L);", disc.write(0, 0L));
        shows("disc.file(3, 6, 2);", disc.file(3, 6, 2));
        shows("disc.close(0);", disc.close(0));
        shows("disc.end();", disc.end());
        shows("disc.scratch(1, 1, 0, 120);", disc.scratch(1, 1, 0, 120));
        shows("disc.ofSector(6, 2);", disc.ofSector(6, 2));
        shows("disc.read(6);", disc.read(6));
        shows("disc.nibbles(6, true);", disc.nibbles(6, true));
        shows("disc.clock();", disc.clock());
        shows("disc.wouldMend(6, 65535);", disc.wouldMend(6, 65535));
        shows("disc.ofFile(3, 0, 2);", disc.ofFile(3, 0, 2));
        c.due("lines of the example", lines.size(), told);
        c.finish();
    }

    private static List<String> example() {
        String all;
        try {
            all = Files.readString(Path.of("README.md"));
        } catch (IOException e) {
            throw new IllegalStateException("there is no README.md", e);
        }
        int from = all.indexOf("```java\n") + "```java\n".length();
        return new ArrayList<>(List.of(all.substring(from, all.indexOf("```", from)).split("\n")));
    }

    private static void shows(String call, Object answer) {
        String line = told < lines.size() ? lines.get(told) : "";
        told++;
        String[] parts = line.split("//", 2);
        c.due("line " + told + " of the example", call, parts[0].trim());
        String tells = parts.length < 2 ? "" : parts[1].split(":")[0].trim();
        c.due("README.md, of " + call, String.valueOf(answer), tells);
    }
}
