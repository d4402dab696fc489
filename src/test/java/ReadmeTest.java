import java.io.IOException;
import java.nio.file.Files;
import java.nio.file.Path;
import java.util.ArrayList;
import java.util.List;

/** The example of README.md: each line of it tells the answer that the class gives. */
public final class ReadmeTest {
    private static final List<String> CALLS = new ArrayList<>();

    public static void main(String[] args) throws IOException {
        runExample();
        List<String> told = exampleLines();
        for (int i = 0; i < Math.max(CALLS.size(), told.size()); i++) {
            String call = i < CALLS.size() ? CALLS.get(i) : "nothing";
            String line = i < told.size() ? told.get(i) : "nothing";
            if (!line.startsWith(call)) {
                System.out.println("README.md tells " + line + ", due is " + call);
                System.exit(1);
            }
        }
        System.out.println("the example of README.md is as due");
    }

    private static void answered(String call, int answer) {
        CALLS.add(call + "; // " + answer + ": ");
    }

    private static void runExample() {
        SearchWire x = new SearchWire();
        int r = x.record(30);
        answered("int r = x.record(30)", r);
        answered("x.term(r, 0, 7)", x.term(r, 0, 7));
        int q = x.question(1, 0, 0, 9);
        answered("int q = x.question(1, 0, 0, 9)", q);
        int s = x.session(7, 80);
        answered("int s = x.session(7, 80)", s);
        answered("x.search(s, q, 1)", x.search(s, q, 1));
        answered("x.sort(s, 1, 0, true)", x.sort(s, 1, 0, true));
        answered("x.present(s, 1, 0, 1)", x.present(s, 1, 0, 1));
        answered("x.segment(s, 0, 2)", x.segment(s, 0, 2));
        answered("x.at(s, 0)", x.at(s, 0));
        answered("x.scan(s, 0, 4, 5, 1)", x.scan(s, 0, 4, 5, 1));
        answered("x.scanned(s, 0, 0)", x.scanned(s, 0, 0));
        answered("x.present(s, 1, 0, 2)", x.present(s, 1, 0, 2));
        answered("x.state(s, 2)", x.state(s, 2));
        answered("x.close(s)", x.close(s));
        answered("x.search(s, q, 1)", x.search(s, q, 1));
        answered("x.at(s, 0)", x.at(s, 0));
    }

    /** The lines of the example that tell an answer, with single spaces. */
    private static List<String> exampleLines() throws IOException {
        List<String> lines = new ArrayList<>();
        boolean inside = false;
        for (String line : Files.readAllLines(Path.of("README.md"))) {
            if (line.startsWith("```")) {
                inside = line.equals("```java");
            } else if (inside && line.contains("//")) {
                lines.add(line.replaceAll(" +", " "));
            }
        }
        return lines;
    }
}
