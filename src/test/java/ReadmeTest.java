import java.io.IOException;
import java.nio.charset.StandardCharsets;
import java.nio.file.Files;
import java.nio.file.Path;
import java.util.ArrayList;
import java.util.List;
import java.util.regex.Matcher;
import java.util.regex.Pattern;

/** The lines of README.md that call the class, in their order, with what they say is answered. */
public final class ReadmeTest {
    private static final Due DUE = new Due("ReadmeTest");
    private static final Pattern CALL = Pattern.compile("(?m)^(?:int (\\w+) = )?(x\\.\\w+\\(.*?\\)); +// (-?\\d+)(?::.*)?$");

    private final List<String> calls = new ArrayList<>();
    private final List<Integer> answers = new ArrayList<>();
    private int next = 0;

    private ReadmeTest(String readme) {
        Matcher m = CALL.matcher(readme);
        while (m.find()) {
            calls.add(m.group(2));
            answers.add(Integer.parseInt(m.group(3)));
        }
    }

    /** This call is the next one of README.md, and answers what stands behind it there. */
    private int due(String call, int got) {
        boolean isThere = next < calls.size() && calls.get(next).equals(call);
        DUE.due("README.md has as call " + next + ": " + call, isThere ? 1 : 0, 1);
        if (isThere) {
            DUE.due("README.md: " + call, got, answers.get(next));
        }
        next++;
        return got;
    }

    private void ships(FleetDelegates x) {
        int one = due("x.ship(27, 250, 900, 900, 40, 80)", x.ship(27, 250, 900, 900, 40, 80));
        int two = due("x.ship(29, 600, 60, 90, 55, 50)", x.ship(29, 600, 60, 90, 55, 50));
        int paper = due("x.paper(one, 57)", x.paper(one, 57));
        due("x.would(two, 57, 5)", x.would(two, 57, 5));
        due("x.boat(one, two, 100, 100, paper)", x.boat(one, two, 100, 100, paper));
        due("x.hours(6)", x.hours(6));
        due("x.at(two, 5)", x.at(two, 5));
        due("x.saw(one, two)", x.saw(one, two));
        due("x.knows(two, 1)", x.knows(two, 1));
        due("x.signal(two, 0)", x.signal(two, 0));
    }

    private void articles(FleetDelegates x, int two) {
        due("x.write(0x206c6c612065776fL, 8)", x.write(0x206c6c612065776fL, 8));
        due("x.fault()", x.fault());
        due("x.write('5', 1)", x.write('5', 1));
        due("x.fault()", x.fault());
        due("x.articles(0)", x.articles(0));
        due("x.owed(0, two, 6)", x.owed(0, two, 6));
        due("x.least(0)", x.least(0));
        due("x.sharing(3)", x.sharing(3));
    }

    private void sailing(FleetDelegates x, int one) {
        due("x.battery(59, 1, 7)", x.battery(59, 1, 7));
        due("x.slip(one, 4)", x.slip(one, 4));
        due("x.officer(one, 15)", x.officer(one, 15));
        due("x.list(1, true)", x.list(1, true));
        due("x.asked(one)", x.asked(one));
        due("x.ask(2, 4, 8)", x.ask(2, 4, 8));
        due("x.reaches(1, 4)", x.reaches(1, 4));
        due("x.begin(1, 4)", x.begin(1, 4));
    }

    public static void main(String[] args) throws IOException {
        ReadmeTest test = new ReadmeTest(Files.readString(Path.of("README.md"), StandardCharsets.UTF_8));
        FleetDelegates x = new FleetDelegates();
        test.ships(x);
        test.articles(x, 1);
        test.sailing(x, 0);
        DUE.due("calls of README.md", test.calls.size(), test.next);
        DUE.end();
    }
}
