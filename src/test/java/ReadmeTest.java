import java.io.IOException;
import java.nio.file.Files;
import java.nio.file.Path;
import java.util.ArrayList;
import java.util.List;

/** README.md's example: its lines stand here between two marks, and what its comments say is compared. */
public final class ReadmeTest {
    private static final Path README = Path.of("README.md");
    private static final Path SELF = Path.of("src/test/java/ReadmeTest.java");

    public static void main(String[] args) throws IOException {
        theExample();
        sameLines();
        Probe.finish("ReadmeTest");
    }

    private static void theExample() {
        // example begins
        FloppyDesk desk = new FloppyDesk();

        // FORMAT: the BUFFER has the bytes of the track, 245 for an address mark and 247 for a check.
        desk.fill(78, 8);
        desk.fill(0, 4);
        desk.fill(245, 3);
        desk.fill(254, 1);                // an ID field: track 0, side 0, sector 1, length 0 (16 bytes)
        desk.fill(0, 2);
        desk.fill(1, 1);
        desk.fill(0, 1);
        desk.fill(247, 1);
        desk.command(5, false);
        desk.serve(150);                  // up to the INDEX, where it begins,
        desk.serve(150);                  // and up to the next one: behind the BUFFER's end it is given 0s
        int formatted = desk.look(0);     // 0: not BUSY, and nothing was wrong

        // WRITE: the sector is named by the registers TRACK, which is 0 already, and SECTOR.
        desk.clear();
        desk.fill(65, 15);
        desk.fill(66, 1);
        desk.set(1, 1);
        desk.command(3, false);
        int given = desk.serve(150);      // 16

        // READ: what is taken comes to the end of the BUFFER.
        desk.clear();
        desk.command(2, false);
        int taken = desk.serve(150);      // 16
        int first = desk.buffer(0);       // 65
        int last = desk.buffer(15);       // 66
        int status = desk.look(0);        // 0

        // SEEK: DATA is the track to go to; a track is a step of three byte times.
        desk.give(2);
        desk.command(1, false);
        desk.run(9);
        int head = desk.look(4);          // 2

        // A sector that is not there: it is sought up to the fifth INDEX.
        desk.command(2, false);
        int indexes = desk.run(200) + desk.run(200) + desk.run(200) + desk.run(200);
        int missing = desk.look(0);       // 16: MISSING
        // example ends
        Probe.due("README: formatted", formatted, 0);
        Probe.due("README: given", given, 16);
        Probe.due("README: taken", taken, 16);
        Probe.due("README: first", first, 65);
        Probe.due("README: last", last, 66);
        Probe.due("README: status", status, 0);
        Probe.due("README: head", head, 2);
        Probe.due("README: indexes", indexes, 5);
        Probe.due("README: missing", missing, 16);
    }

    private static void sameLines() throws IOException {
        List<String> told = linesBetween(README, "```java", "```");
        List<String> tried = linesBetween(SELF, "// example begins", "// example ends");
        Probe.due("lines of README's example", tried.size(), told.size());
        for (int i = 0; i < Math.min(told.size(), tried.size()); i++) {
            Probe.due("README's example, line " + (i + 1) + " is another one: " + told.get(i), told.get(i).equals(tried.get(i)) ? 0 : 1, 0);
        }
    }

    /** The lines behind the first one that is the beginning, up to the end; white space around them is nothing. */
    private static List<String> linesBetween(Path file, String begin, String end) throws IOException {
        List<String> found = new ArrayList<>();
        boolean isInside = false;
        for (String line : Files.readAllLines(file)) {
            String text = line.strip();
            if (isInside && text.equals(end)) {
                return found;
            }
            if (isInside) {
                found.add(text);
            }
            isInside = isInside || text.equals(begin);
        }
        Probe.due(file + " has no " + end, 1, 0);
        return found;
    }
}
