import java.io.IOException;
import java.nio.file.Files;
import java.nio.file.Path;
import java.util.Arrays;
import java.util.List;
import java.util.regex.Matcher;
import java.util.regex.Pattern;

/** What README.md shows is so: the answers behind its calls, and its text of ORDERS does the same works. */
public final class ReadmeTest {
    private static final Pattern CALL = Pattern.compile("x\\.(\\w+)\\(([^)]*)\\); +// (-?\\d+): .*");
    private static final int CALLS_LEAST = 10;

    private static int wrong = 0;

    public static void main(String[] args) throws IOException {
        String page = Files.readString(Path.of("README.md"));
        Probe x = new Probe();
        int calls = 0;
        for (String line : part(page, "java").split("\n")) {
            Matcher call = CALL.matcher(line);
            if (call.matches()) {
                due(line, x.ask(call.group(1), numbers(call.group(2))), Long.parseLong(call.group(3)));
                calls++;
            } else {
                due(line, line.equals("BarrierStreams x = new BarrierStreams();") ? 1 : 0, 1);
            }
        }
        due("enough calls", calls >= CALLS_LEAST ? 1 : 0, 1);

        Probe told = new Probe();
        told.type(part(page, "text"));
        due("does()", told.ask("does"), 6);
        due("the same works", works(told).equals(works(x)) ? 1 : 0, 1);
        System.out.println(wrong == 0 ? "README.md is right" : wrong + " faults of README.md");
        if (wrong != 0) {
            System.exit(1);
        }
    }

    private static void due(String what, long got, long want) {
        if (got != want) {
            wrong++;
            System.out.println("README.md: " + what + " answered " + got + ", due is " + want);
        }
    }

    // Bytes of THE TEXT and STATES are other, by a text.
    private static List<Integer> works(Probe x) {
        List<Integer> all = x.all();
        return all.subList(2, all.size());
    }

    private static String part(String page, String language) {
        String start = "```" + language + "\n";
        int from = page.indexOf(start) + start.length();
        return page.substring(from, page.indexOf("\n```", from));
    }

    private static int[] numbers(String words) {
        String plain = words.replace("BarrierStreams.NONE", "-1").trim();
        return plain.isEmpty() ? new int[0]
            : Arrays.stream(plain.split(",")).map(String::trim).mapToInt(Integer::parseInt).toArray();
    }
}
