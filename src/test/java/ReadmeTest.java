import java.io.IOException;
import java.nio.file.Files;
import java.nio.file.Path;
import java.util.List;
import java.util.regex.Matcher;
import java.util.regex.Pattern;

/** The example of README.md, called here line by line: each answers what stands behind it there. */
final class ReadmeTest {
    private static final Pattern ANSWERED = Pattern.compile("(x\\..*);\\s+// (-?\\d+)\\b.*");

    private final List<String> lines;
    private int next;

    private ReadmeTest(List<String> lines) {
        this.lines = lines;
    }

    static void runAll(String readme) {
        List<String> lines;
        try {
            lines = Files.readAllLines(Path.of(readme));
        } catch (IOException e) {
            Check.holds(readme + " can be read", false);
            return;
        }
        new ReadmeTest(lines).example();
    }

    private void example() {
        stands("SwingCranes x = new SwingCranes();");
        stands("for (char letter : \"e700;k3,20,6;\".toCharArray()) {");
        stands("    x.write(letter);");
        SwingCranes x = new SwingCranes();
        for (char letter : "e700;k3,20,6;".toCharArray()) {
            x.write(letter);
        }
        answers("x.fault()", x.fault());
        answers("x.lay()", x.lay());
        answers("x.best(0, 12, 0)", x.best(0, 12, 0));
        answers("x.shape(0, 12, 13)", x.shape(0, 12, 13));
        answers("x.tick(20)", x.tick(20));
        answers("x.crane(0, 0)", x.crane(0, 0));
        answers("x.crane(0, 4) - SwingCranes.ZERO", x.crane(0, 4) - SwingCranes.ZERO);
        answers("x.tick(61)", x.tick(61));
        answers("x.undo()", x.undo());
        answers("x.crane(0, 0)", x.crane(0, 0));
        while (next < lines.size()) {
            Check.holds("called here, too: " + lines.get(next), !ANSWERED.matcher(lines.get(next)).matches());
            next++;
        }
    }

    private void stands(String line) {
        while (next < lines.size() && !lines.get(next).equals(line)) {
            next++;
        }
        Check.holds("README says " + line, next < lines.size());
        next++;
    }

    private void answers(String call, int got) {
        while (next < lines.size() && !ANSWERED.matcher(lines.get(next)).matches()) {
            next++;
        }
        Matcher said = ANSWERED.matcher(next < lines.size() ? lines.get(next) : "");
        next++;
        boolean isThere = said.matches() && said.group(1).equals(call);
        Check.holds("README says " + call, isThere);
        if (isThere) {
            Check.due("README: " + call, got, Integer.parseInt(said.group(2)));
        }
    }
}
