import java.io.IOException;
import java.nio.file.Files;
import java.nio.file.Path;
import java.util.ArrayList;
import java.util.LinkedHashMap;
import java.util.List;
import java.util.Map;

/** README.md shows the very calls that are made here, and each answers what stands behind it there. */
public final class ReadmeTest {
    public static void main(String[] args) throws IOException {
        Due due = new Due();
        List<String> shown = shownLines(Path.of("README.md"));
        String here = Files.readString(Path.of("src", "test", "java", "ReadmeTest.java"));
        Map<String, Integer> answers = answers();
        int told = 0;
        for (String line : shown) {
            String call = line.replaceAll(" *//.*", "");
            if (!here.contains("        " + call + "\n")) {
                due.tell("README.md shows a call that is not tried: " + call);
            }
            if (line.startsWith("int ")) {
                String name = line.split(" ")[1];
                String want = line.replaceAll(".*// (-?[0-9]+).*", "$1");
                due.same("README.md's " + name, Long.parseLong(want), () -> answers.getOrDefault(name, -2));
                told++;
            }
        }
        if (told != answers.size()) {
            due.tell("README.md shows " + told + " answers, tried are " + answers.size());
        }
        due.close();
    }

    private static List<String> shownLines(Path readme) throws IOException {
        List<String> shown = new ArrayList<>();
        boolean within = false;
        for (String line : Files.readAllLines(readme)) {
            if (line.startsWith("```")) {
                within = line.equals("```java");
            } else if (within) {
                shown.add(line);
            }
        }
        return shown;
    }

    private static Map<String, Integer> answers() {
        HarbourPilotline harbour = new HarbourPilotline();
        int ship = harbour.ship(110, 60, 40, 2);
        int pilot = harbour.pilot(100, 5);
        int first = harbour.call(ship, 0);
        int early = harbour.join(first, HarbourPilotline.SHIP, 0);
        int still = harbour.join(first, HarbourPilotline.PILOT, pilot);
        int slot = harbour.join(first, HarbourPilotline.TOWER, 0);
        int second = harbour.call(ship, 0);
        int none = harbour.join(second, HarbourPilotline.TOWER, 0);
        int wait = harbour.join(second, HarbourPilotline.SHIP, 0);
        int later = harbour.join(second, HarbourPilotline.PILOT, pilot);
        int reason = harbour.why(second, 200);
        int moved = harbour.drop(first, HarbourPilotline.TOWER);
        int better = harbour.ofConference(second, 1);
        int done = harbour.pass(220);
        int owed = harbour.bill(ship);
        Map<String, Integer> answers = new LinkedHashMap<>(Map.of("ship", ship, "pilot", pilot, "first", first,
                "early", early, "still", still, "slot", slot, "second", second));
        answers.putAll(Map.of("none", none, "wait", wait, "later", later, "reason", reason, "moved", moved,
                "better", better, "done", done, "owed", owed));
        return answers;
    }
}
