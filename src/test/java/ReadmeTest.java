import java.io.IOException;
import java.nio.file.Files;
import java.nio.file.Path;
import java.util.ArrayList;
import java.util.List;

/** README.md's examples: the calls there are made here in the same order, and must answer as it says. */
public final class ReadmeTest {
    private static final Expect EXPECT = new Expect("ReadmeTest");
    private static final OrderPassing X = new OrderPassing();
    private static final int EARLY = X.date();
    private static final int LATE = X.date();

    private ReadmeTest() {
    }

    public static void main(String[] args) throws IOException {
        List<String> made = new ArrayList<>();
        ordinaryCalls(made);
        outlierCalls(made);
        callsWhenNothingFits(made);
        List<String> told = toldInReadme();
        EXPECT.same("how many calls README.md tells", told.size(), made.size());
        for (int i = 0; i < told.size() && i < made.size(); i++) {
            EXPECT.same("README.md's call " + i, made.get(i), told.get(i));
        }
        EXPECT.finish();
    }

    private static void call(List<String> made, String text, Object answer) {
        made.add(text + " = " + answer);
    }

    private static void ordinaryCalls(List<String> made) {
        call(made, "x.date()", EARLY);
        call(made, "x.date()", LATE);
        call(made, "x.weight(early, 3, 5)", X.weight(EARLY, 3, 5));
        call(made, "x.weight(early, 7, 2)", X.weight(EARLY, 7, 2));
        call(made, "x.weight(late, 4, 3)", X.weight(LATE, 4, 3));
        call(made, "x.row(early, late, 1, 2)", X.row(EARLY, LATE, 1, 2));
        call(made, "x.member(late)", X.member(LATE));
        call(made, "x.row(late, early, 0, 11)", X.row(LATE, EARLY, 0, 11));
        call(made, "x.count(0)", X.count(0));
        call(made, "x.fits()", X.fits());
        EXPECT.same("the sum of all", Given.lastDigits(6, X::total), 86400L);
        EXPECT.same("the sum of a bound", Given.lastDigits(6, k -> X.bound(0, 4, k)), 17280L);
        call(made, "x.total(4)", X.total(4));
        call(made, "x.total(47)", X.total(47));
        call(made, "x.answered(early, 3, 2)", X.answered(EARLY, 3, 2));
        call(made, "x.answered(early, 7, 2)", X.answered(EARLY, 7, 2));
        call(made, "x.bound(0, 4, 4)", X.bound(0, 4, 4));
        call(made, "x.both(early, 3, late, 4, 3)", X.both(EARLY, 3, LATE, 4, 3));
        call(made, "x.span(early, 0)", X.span(EARLY, 0));
        call(made, "x.span(early, 1)", X.span(EARLY, 1));
    }

    private static void outlierCalls(List<String> made) {
        X.outlier(EARLY, 1, 10);
        call(made, "x.span(early, 0)", X.span(EARLY, 0));
        call(made, "x.narrow(early, 9, 10)", X.narrow(EARLY, 9, 10));
        call(made, "x.narrow(early, 1, 1)", X.narrow(EARLY, 1, 1));
    }

    private static void callsWhenNothingFits(List<String> made) {
        X.outlier(EARLY, 0, 1);
        call(made, "x.weight(late, 4, 0)", X.weight(LATE, 4, 0));
        call(made, "x.weight(late, 2, 3)", X.weight(LATE, 2, 3));
        call(made, "x.fits()", X.fits());
        call(made, "x.fitless(0)", X.fitless(0));
        call(made, "x.fitless(1)", X.fitless(1));
    }

    /** The calls in README.md behind which an answer stands, each as "call = answer". */
    private static List<String> toldInReadme() throws IOException {
        List<String> told = new ArrayList<>();
        for (String line : Files.readAllLines(Path.of("README.md"))) {
            int call = line.indexOf("x.");
            int end = line.indexOf(';');
            int answer = line.indexOf("// ");
            if (call >= 0 && call < end && end < answer) {
                told.add(line.substring(call, end) + " = " + line.substring(answer + 3).split(":")[0].trim());
            }
        }
        return told;
    }
}
