import java.util.ArrayList;
import java.util.List;

/**
 * "Such a call changes nothing": for each call that throws or answers NONE, one object gets it and a twin
 * does not; then both are asked for all that can be seen, and must answer the same.
 */
public final class RefusedCallsTest {
    private static final Expect EXPECT = new Expect("RefusedCallsTest");

    private interface Refused {
        Object by(OrderPassing x);
    }

    private interface Start {
        OrderPassing made();
    }

    private record Case(String name, String due, Refused call) {
    }

    private static final String NO_SUCH = "throws.NoSuchElementException";
    private static final String ARGUMENT = "throws.IllegalArgumentException";
    private static final String STATE = "throws.IllegalStateException";

    private RefusedCallsTest() {
    }

    public static void main(String[] args) {
        for (Case one : refusedInTheMiddle()) {
            changesNothing(one, RefusedCallsTest::middle);
        }
        for (Case one : refusedWhenEmpty()) {
            changesNothing(one, OrderPassing::new);
        }
        for (Case one : refusedWhenFull()) {
            changesNothing(one, RefusedCallsTest::full);
        }
        EXPECT.finish();
    }

    private static void changesNothing(Case one, Start start) {
        OrderPassing refused = start.made();
        OrderPassing twin = start.made();
        EXPECT.same(one.name, String.valueOf(Expect.outcome(() -> one.call.by(refused))), one.due);
        List<Object> got = allThatIsSeen(refused);
        List<Object> due = allThatIsSeen(twin);
        for (int i = 0; i < due.size(); i++) {
            EXPECT.same("after " + one.name + ", look " + i, got.get(i), due.get(i));
        }
    }

    /** Three dates, of which two are joined and two are members; the fourth is yet to come. */
    private static OrderPassing middle() {
        OrderPassing x = Given.dates(3);
        for (int date = 0; date < 3; date++) {
            x.weight(date, 2 * date, 7);
            x.weight(date, 2 * date + 3, 5);
        }
        x.outlier(1, 1, 3);
        x.row(0, 1, 1, 5);
        x.member(1);
        x.member(2);
        return x;
    }

    /** Six dates of which all is told that can be; the row with number 1 cannot hold. */
    private static OrderPassing full() {
        OrderPassing x = Given.datesIn(3, 3, 3, 4, 5, 6);
        x.row(0, 1, 0, 2);
        x.row(1, 2, 1, 2);
        x.row(2, 3, 0, 11);
        x.member(0);
        x.member(4);
        x.member(5);
        return x;
    }

    private static List<Case> refusedInTheMiddle() {
        List<Case> cases = new ArrayList<>();
        for (int date : new int[] {-1, 3}) {
            cases.add(new Case("weight, date", NO_SUCH, x -> x.weight(date, 2, 9)));
            cases.add(new Case("outlier, date", NO_SUCH, x -> Given.outlier(x, date, 1, 2)));
            cases.add(new Case("row, a", NO_SUCH, x -> x.row(date, 2, 0, 0)));
            cases.add(new Case("row, b", NO_SUCH, x -> x.row(0, date, 0, 0)));
            cases.add(new Case("member, date", NO_SUCH, x -> x.member(date)));
            cases.add(new Case("answered, date", NO_SUCH, x -> x.answered(date, 2, 0)));
            cases.add(new Case("both, a", NO_SUCH, x -> x.both(date, 2, 0, 0, 0)));
            cases.add(new Case("both, b", NO_SUCH, x -> x.both(0, 5, date, 2, 0)));
            cases.add(new Case("span, date", NO_SUCH, x -> x.span(date, 0)));
            cases.add(new Case("narrow, date", NO_SUCH, x -> x.narrow(date, 1, 2)));
        }
        for (int year : new int[] {-1, 12}) {
            cases.add(new Case("weight, year", NO_SUCH, x -> x.weight(0, year, 9)));
            cases.add(new Case("answered, year", NO_SUCH, x -> x.answered(0, year, 0)));
            cases.add(new Case("bound, year", NO_SUCH, x -> x.bound(0, year, 0)));
            cases.add(new Case("both, x", NO_SUCH, x -> x.both(0, year, 1, 2, 0)));
            cases.add(new Case("both, y", NO_SUCH, x -> x.both(0, 5, 1, year, 0)));
        }
        for (int digit : new int[] {-1, 48}) {
            cases.add(new Case("total, digit", NO_SUCH, x -> x.total(digit)));
            cases.add(new Case("answered, digit", NO_SUCH, x -> x.answered(0, 5, digit)));
            cases.add(new Case("bound, digit", NO_SUCH, x -> x.bound(1, 5, digit)));
            cases.add(new Case("both, digit", NO_SUCH, x -> x.both(0, 5, 1, 2, digit)));
        }
        for (int which : new int[] {-1, 2}) {
            cases.add(new Case("bound, which", NO_SUCH, x -> x.bound(which, 5, 0)));
            cases.add(new Case("span, which", NO_SUCH, x -> x.span(0, which)));
        }
        cases.add(new Case("fitless, k", NO_SUCH, x -> x.fitless(-1)));
        cases.add(new Case("count -1", NO_SUCH, x -> x.count(-1)));
        cases.add(new Case("count 3", NO_SUCH, x -> x.count(3)));
        addWrongArguments(cases);
        cases.add(new Case("row between joined dates", "-1", x -> x.row(1, 0, 0, 0)));
        cases.add(new Case("row between two members' trees", "-1", x -> x.row(0, 2, 0, 0)));
        cases.add(new Case("row to itself", "-1", x -> x.row(2, 2, 0, 0)));
        cases.add(new Case("member that is one", "-1", x -> x.member(2)));
        cases.add(new Case("member whose tree has one", "-1", x -> x.member(0)));
        return cases;
    }

    private static void addWrongArguments(List<Case> cases) {
        for (int w : new int[] {-1, 1000}) {
            cases.add(new Case("weight " + w, ARGUMENT, x -> x.weight(0, 0, w)));
        }
        for (int[] share : new int[][] {{-1, 2}, {3, 2}, {0, 0}, {1, 11}}) {
            cases.add(new Case("outlier", ARGUMENT, x -> Given.outlier(x, 0, share[0], share[1])));
        }
        for (int[] row : new int[][] {{-1, 2}, {3, 2}, {0, 12}}) {
            cases.add(new Case("row", ARGUMENT, x -> x.row(0, 2, row[0], row[1])));
        }
        for (int[] share : new int[][] {{0, 2}, {3, 2}, {1, 1001}}) {
            cases.add(new Case("narrow", ARGUMENT, x -> x.narrow(0, share[0], share[1])));
        }
    }

    private static List<Case> refusedWhenEmpty() {
        List<Case> cases = new ArrayList<>();
        cases.add(new Case("weight without dates", NO_SUCH, x -> x.weight(0, 0, 1)));
        cases.add(new Case("outlier without dates", NO_SUCH, x -> Given.outlier(x, 0, 1, 2)));
        cases.add(new Case("row without dates", NO_SUCH, x -> x.row(0, 1, 0, 0)));
        cases.add(new Case("member without dates", NO_SUCH, x -> x.member(0)));
        cases.add(new Case("both without dates", NO_SUCH, x -> x.both(0, 0, 0, 0, 0)));
        cases.add(new Case("bound without members", STATE, x -> x.bound(0, 5, 0)));
        cases.add(new Case("bound without members", STATE, x -> x.bound(1, 5, 0)));
        return cases;
    }

    private static List<Case> refusedWhenFull() {
        List<Case> cases = new ArrayList<>();
        cases.add(new Case("a seventh date", STATE, OrderPassing::date));
        cases.add(new Case("a seventh that is told", "-1", x -> x.row(4, 5, 0, 0)));
        cases.add(new Case("a seventh that is told", "-1", x -> x.member(3)));
        cases.add(new Case("fitless, k", NO_SUCH, x -> x.fitless(-1)));
        cases.add(new Case("fitless behind the last", "-1", x -> x.fitless(1)));
        return cases;
    }

    /** All that can be seen, within 512 calls; the calls that change come last. */
    private static List<Object> allThatIsSeen(OrderPassing x) {
        List<Object> seen = new ArrayList<>();
        for (int what = 0; what < 3; what++) {
            seen.add(x.count(what));
        }
        seen.add(x.fits());
        for (int k = 0; k < 7; k++) {
            seen.add(x.fitless(k));
        }
        for (int digit = 0; digit < 12; digit++) {
            seen.add(x.total(digit));
        }
        int dates = x.count(0);
        for (int date = 0; date < dates; date++) {
            lookAtDate(x, date, seen);
        }
        for (int i = 0; i < 24; i++) {
            int year = i / 2;
            int which = i % 2;
            seen.add(Expect.outcome(() -> x.bound(which, year, 3)));
        }
        seen.add(Expect.outcome(x::date));
        lookAtWhatIsTold(x, seen);
        lookAtWeights(x, seen);
        return seen;
    }

    private static void lookAtDate(OrderPassing x, int date, List<Object> seen) {
        for (int year = 0; year < 12; year++) {
            seen.add(x.answered(date, year, 2));
            seen.add(x.answered(date, year, 4));
        }
        seen.add(x.span(date, 0));
        seen.add(x.span(date, 1));
        seen.add(x.narrow(date, 1, 2));
    }

    /** The numbers that new rows and members get, and which of them must not be. */
    private static void lookAtWhatIsTold(OrderPassing x, List<Object> seen) {
        int dates = x.count(0);
        for (int a = 0; a < dates; a++) {
            for (int b = 0; b < dates; b++) {
                seen.add(x.row(a, b, 0, 11));
            }
        }
        for (int date = 0; date < dates; date++) {
            seen.add(x.member(date));
        }
    }

    private static void lookAtWeights(OrderPassing x, List<Object> seen) {
        int dates = x.count(0);
        for (int date = 0; date < dates; date++) {
            for (int year = 0; year < 12; year++) {
                seen.add(x.weight(date, year, 1));
            }
        }
        for (int digit = 0; digit < 24; digit++) {
            seen.add(x.total(digit));
        }
    }
}
