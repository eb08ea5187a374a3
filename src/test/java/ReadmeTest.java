import java.io.File;
import java.io.IOException;
import java.lang.reflect.Method;
import java.lang.reflect.Modifier;
import java.nio.file.Files;
import java.nio.file.Path;

/** README.md names each act with its arguments and each test, and its example answers what it says. */
public final class ReadmeTest {
    private static final Expect EXPECT = new Expect();

    public static void main(String[] args) throws IOException {
        String readme = Files.readString(Path.of("README.md"));
        actsAreNamed(readme);
        testsAreNamed(readme);
        exampleHolds(readme);
        EXPECT.end();
    }

    private static void isThere(String readme, String text) {
        EXPECT.is("README.md has " + text + ": 1, hasn't: 0; it", readme.contains(text) ? 1 : 0, 1);
    }

    private static void actsAreNamed(String readme) {
        for (Method act : DowryFund.class.getDeclaredMethods()) {
            if (Modifier.isPublic(act.getModifiers())) {
                String arguments = "[^(),]+(, [^(),]+){" + Math.max(0, act.getParameterCount() - 1) + "}";
                String call = "(?s).*\n\\| `" + act.getName() + "\\(" + (act.getParameterCount() == 0 ? "" : arguments)
                    + "\\)` \\|.*";
                EXPECT.is("README.md has a row of " + act.getName() + ": 1, hasn't: 0; it",
                    readme.matches(call) ? 1 : 0, 1);
            }
        }
    }

    private static void testsAreNamed(String readme) {
        String[] files = new File("src/test/java").list((folder, name) -> name.endsWith("Test.java"));
        for (String file : files == null ? new String[0] : files) {
            isThere(readme, "\n| " + file.replace(".java", "") + " |");
        }
    }

    private static void line(String readme, String call, long got, long want) {
        EXPECT.is(call, got, want);
        String row = readme.lines().filter(l -> l.startsWith(call + " ")).findFirst().orElse("");
        EXPECT.is("README.md says of " + call + ": 1, doesn't: 0; it",
            row.matches(".* // " + want + "(\\D.*)?") ? 1 : 0, 1);
    }

    private static void exampleHolds(String readme) {
        isThere(readme, "\nDowryFund fund = new DowryFund();\n");
        DowryFund fund = new DowryFund();
        line(readme, "fund.rate(15, 300);", fund.rate(15, 300), 100);
        line(readme, "fund.child(0);", fund.child(0), 0);
        line(readme, "fund.deposit(0, 0, 0, 100, 2);", fund.deposit(0, 0, 0, 100, 2), 0);
        line(readme, "fund.months(180);", fund.months(180), 180);
        line(readme, "fund.due(0, 180, 2);", fund.due(0, 180, 2), Expect.NONE);
        line(readme, "fund.fate(0, 0, 180);", fund.fate(0, 0, 180), 1);
        line(readme, "fund.due(0, 200, 2);", fund.due(0, 200, 2), 300);
        line(readme, "fund.income(200);", fund.income(200), 200);
        line(readme, "fund.sell(0, 5);", fund.sell(0, 5), 2);
        line(readme, "fund.months(1);", fund.months(1), 181);
        line(readme, "fund.paid(5);", fund.paid(5), 200);
        line(readme, "fund.purse(3);", fund.purse(3), 100);
    }
}
