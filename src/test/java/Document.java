import java.io.IOException;
import java.nio.file.Files;
import java.nio.file.Path;
import java.util.ArrayList;
import java.util.List;

/** The document's sections, and which of their words no test stands for. */
final class Document {
    private static final int PROMISES = 20;

    private final String[] sections = new String[PROMISES + 1];
    private final boolean[][] claimed = new boolean[PROMISES + 1][];

    Document(Path file) throws IOException {
        StringBuilder[] texts = new StringBuilder[PROMISES + 1];
        for (int i = 0; i <= PROMISES; i++) {
            texts[i] = new StringBuilder();
        }
        int section = 0;
        boolean free = false;
        for (String line : Files.readAllLines(file)) {
            if (line.startsWith("#")) {
                section = promiseOf(line, section);
                free = line.equals("## The public face") || line.equals("## Not promised");
            } else if (!free && !isFree(line)) {
                texts[section].append(bare(line)).append(' ');
            }
        }
        for (int i = 0; i <= PROMISES; i++) {
            sections[i] = texts[i].toString();
            claimed[i] = new boolean[sections[i].length()];
        }
    }

    private static int promiseOf(String heading, int section) {
        String start = "## Promise ";
        return heading.startsWith(start)
                ? Integer.parseInt(heading.substring(start.length(), heading.indexOf(':'))) : section;
    }

    /** The summary says nothing that later words do not say; where an interface's headings stand is no behaviour. */
    private static boolean isFree(String line) {
        return line.startsWith("Pilots, tides and a dispatch exchange") || line.startsWith("Ahead of the calls ");
    }

    /** A line without its signature or its dash. */
    private static String bare(String line) {
        int end = line.indexOf("`: ");
        if (line.startsWith("`") && line.indexOf('(') >= 0 && end > line.indexOf('(')) {
            return line.substring(end + 3);
        }
        return line.startsWith("- ") ? line.substring(2) : line;
    }

    /** Tells whether the promise says these words. */
    boolean claim(int promise, String words) {
        if (promise < 0 || promise > PROMISES || words.isEmpty()) {
            return false;
        }
        int from = sections[promise].indexOf(words);
        for (int i = 0; from >= 0 && i < words.length(); i++) {
            claimed[promise][from + i] = true;
        }
        return from >= 0;
    }

    /** What is said, and no test stands for; titles of paragraphs and signs between sentences do not count. */
    List<String> unclaimed() {
        List<String> left = new ArrayList<>();
        for (int promise = 0; promise <= PROMISES; promise++) {
            StringBuilder text = new StringBuilder();
            for (int i = 0; i < claimed[promise].length; i++) {
                text.append(claimed[promise][i] ? '\n' : sections[promise].charAt(i));
            }
            for (String piece : text.toString().split("\n")) {
                String words = piece.replaceAll("[ .,;:`]+", " ").trim();
                if (!words.isEmpty() && !words.equals("The tide ships pilots") && !words.equals("Conferences slots")
                        && !words.equals("The constants")) {
                    left.add("promise " + promise + ": " + words);
                }
            }
        }
        return left;
    }
}
