import java.nio.file.Files;
import java.nio.file.Path;
import java.util.ArrayList;
import java.util.List;
import java.util.Set;
import java.util.TreeSet;
import java.util.regex.Matcher;
import java.util.regex.Pattern;

/** Makes the calls that README.md (its path is given) shows, and holds their answers against those it tells. */
public final class ReadmeTest {
    private static final Pattern STEP = Pattern.compile("^x\\.([a-z]+)\\(([^)]*)\\); +// (-?[0-9]+)(:.*)?$");

    public static void main(String[] args) throws Exception {
        Calls x = null;
        Set<String> shown = new TreeSet<>();
        int wrong = 0;
        int steps = 0;
        for (String line : Files.readAllLines(Path.of(args[0]))) {
            if (line.startsWith("RowGuard x = new RowGuard();")) {
                x = new Calls();
            }
            if (!line.startsWith("x.")) {
                continue;
            }
            steps++;
            Matcher m = STEP.matcher(line);
            int got = 0;
            boolean reads = m.matches() && x != null;
            if (reads) {
                got = x.call(m.group(1), numbers(m.group(2)));
                shown.add(m.group(1));
            }
            if (!reads || got != Integer.parseInt(m.group(3))) {
                wrong++;
                System.out.println("ReadmeTest: " + line + " answered " + got);
            }
        }
        System.out.println("ReadmeTest: " + steps + " calls shown, of " + shown.size() + " names, " + wrong + " wrong");
        if (wrong != 0 || shown.size() != 44) {
            System.exit(1);
        }
    }

    private static int[] numbers(String list) {
        List<Integer> all = new ArrayList<>();
        for (String word : list.split(", *")) {
            if (!word.isEmpty()) {
                all.add(word.equals("RowGuard.NONE") ? RowGuard.NONE : Integer.decode(word));
            }
        }
        return all.stream().mapToInt(i -> i).toArray();
    }
}
