import java.math.BigInteger;

/** Each promise by hand: ordinary inputs, the edges that the document names, and wrong inputs. */
public final class PromisesTest {
    private static final Expect EXPECT = new Expect("PromisesTest");
    private static final int[] WRONG_YEARS = {-1, 12, Integer.MIN_VALUE, Integer.MAX_VALUE};
    private static final int[] WRONG_DIGITS = {-1, 48, Integer.MIN_VALUE, Integer.MAX_VALUE};
    private static final int[] WRONG_BOUNDS = {-1, 2, Integer.MIN_VALUE, Integer.MAX_VALUE};

    private PromisesTest() {
    }

    public static void main(String[] args) {
        newObject();
        date();
        weight();
        outlier();
        row();
        rowsAreTrees();
        member();
        total();
        totalOfTheGreatest();
        answered();
        bound();
        both();
        span();
        narrow();
        narrowAtTheEdge();
        fits();
        fitless();
        fitlessGoesByNumbers();
        count();
        wrongCallsChangeNothing();
        EXPECT.finish();
    }

    private static void sum(String call, Given.Digit digit, long due) {
        EXPECT.same(call, Given.sum(digit), BigInteger.valueOf(due));
    }

    private static void newObject() {
        OrderPassing x = new OrderPassing();
        for (int what = 0; what < 3; what++) {
            EXPECT.same("new count(" + what + ")", x.count(what), 0);
        }
        sum("new total", x::total, 1);
        EXPECT.same("new fits", x.fits(), true);
        EXPECT.same("new fitless", x.fitless(0), -1);
        EXPECT.noSuch("new answered", () -> x.answered(0, 0, 0));
        EXPECT.state("new bound", () -> x.bound(0, 0, 0));
        EXPECT.noSuch("new both", () -> x.both(0, 0, 0, 0, 0));
        EXPECT.noSuch("new member", () -> x.member(0));
        EXPECT.noSuch("new row", () -> x.row(0, 0, 0, 0));
        OrderPassing other = Given.dates(2);
        EXPECT.same("another object's dates", x.count(0), 0);
        EXPECT.same("the other's dates", other.count(0), 2);
    }

    private static void date() {
        OrderPassing x = new OrderPassing();
        for (int i = 0; i < 6; i++) {
            EXPECT.noSuch("date " + i + " is not yet", () -> x.member(x.count(0)));
            EXPECT.same("date", x.date(), i);
            EXPECT.same("first weight", x.weight(i, 11, 0), 0);
        }
        EXPECT.state("seventh date", x::date);
        EXPECT.state("eighth date", x::date);
        EXPECT.same("dates", x.count(0), 6);
    }

    private static void weight() {
        OrderPassing x = Given.dates(2);
        EXPECT.same("weight at first", x.weight(1, 0, 999), 0);
        EXPECT.same("weight before", x.weight(1, 0, 7), 999);
        EXPECT.same("weight before that", x.weight(1, 0, 7), 7);
        EXPECT.same("another year", x.weight(1, 11, 3), 0);
        EXPECT.same("another date", x.weight(0, 0, 2), 0);
        EXPECT.argument("weight -1", () -> x.weight(1, 0, -1));
        EXPECT.argument("weight 1000", () -> x.weight(1, 0, 1000));
        EXPECT.noSuch("date before weight", () -> x.weight(2, 0, 1000));
        EXPECT.noSuch("date -1", () -> x.weight(-1, 0, 0));
        for (int year : WRONG_YEARS) {
            EXPECT.noSuch("weight year " + year, () -> x.weight(0, year, 5));
            EXPECT.noSuch("year before weight", () -> x.weight(0, year, -1));
        }
        EXPECT.same("weight after wrong ones", x.weight(1, 0, 0), 7);
        sum("total", x::total, 24 * 36);
    }

    private static void outlier() {
        OrderPassing x = Given.dates(1);
        x.weight(0, 2, 5);
        x.weight(0, 3, 1);
        x.outlier(0, 1, 3);
        sum("a weighted year", k -> x.answered(0, 2, k), 2 * 12 * 5 + 6);
        sum("a year without weight", k -> x.answered(0, 9, k), 6);
        sum("all", x::total, 3 * 12 * 6);
        x.outlier(0, 10, 10);
        sum("outliers alone", k -> x.answered(0, 2, k), 60);
        x.outlier(0, 0, 10);
        sum("no outliers", k -> x.answered(0, 2, k), 600);
        sum("no outliers, no weight", k -> x.answered(0, 9, k), 0);
        int[][] wrong = {{-1, 1}, {2, 1}, {0, 0}, {0, 11}, {11, 11}, {11, 10}, {0, -1}, {-1, -1}};
        for (int[] share : wrong) {
            EXPECT.argument("outlier " + share[0] + " of " + share[1], () -> Given.outlier(x, 0, share[0], share[1]));
        }
        EXPECT.noSuch("date before share", () -> Given.outlier(x, 1, 2, 1));
        EXPECT.noSuch("date -1", () -> Given.outlier(x, -1, 0, 1));
        sum("after wrong ones", k -> x.answered(0, 2, k), 600);
    }

    private static void row() {
        OrderPassing x = Given.dates(3);
        for (int year = 0; year < 12; year++) {
            x.weight(0, year, 1);
            x.weight(1, year, 1);
        }
        x.weight(2, 5, 1);
        EXPECT.same("first row", x.row(0, 1, 2, 4), 0);
        sum("b at the least", k -> x.both(0, 3, 1, 5, k), 1728);
        sum("b at the most", k -> x.both(0, 3, 1, 7, k), 1728);
        sum("b too near", k -> x.both(0, 3, 1, 4, k), 0);
        sum("b too far", k -> x.both(0, 3, 1, 8, k), 0);
        sum("b before a", k -> x.both(0, 5, 1, 2, k), 0);
        EXPECT.same("second row", x.row(2, 1, 0, 0), 1);
        sum("years of a", k -> x.answered(0, 3, k), 1728);
        sum("years that are too late", k -> x.answered(0, 4, k), 0);
        sum("years that are too early", k -> x.answered(0, 0, k), 0);
        OrderPassing y = Given.dates(2);
        EXPECT.same("the widest", y.row(1, 0, 0, 11), 0);
        OrderPassing z = Given.dates(2);
        EXPECT.same("the farthest", z.row(1, 0, 11, 11), 0);
        int[][] wrong = {{-1, 0}, {1, 0}, {0, 12}, {12, 12}, {0, -1}, {12, 11}, {0, Integer.MAX_VALUE}};
        for (int[] w : wrong) {
            EXPECT.argument("row " + w[0] + " .. " + w[1], () -> Given.dates(2).row(0, 1, w[0], w[1]));
            EXPECT.argument("also where it must not be", () -> x.row(0, 1, w[0], w[1]));
            EXPECT.noSuch("dates before least and most", () -> x.row(0, 3, w[0], w[1]));
            EXPECT.noSuch("dates before least and most", () -> x.row(3, 0, w[0], w[1]));
        }
        EXPECT.noSuch("a is -1", () -> x.row(-1, 0, 0, 0));
        EXPECT.noSuch("b is -1", () -> x.row(0, -1, 0, 0));
        EXPECT.same("rows", x.count(1), 2);
    }

    private static void rowsAreTrees() {
        OrderPassing x = Given.dates(6);
        EXPECT.same("a date with itself", x.row(0, 0, 0, 11), -1);
        EXPECT.same("row", x.row(0, 1, 0, 1), 0);
        EXPECT.same("again", x.row(0, 1, 0, 1), -1);
        EXPECT.same("turned", x.row(1, 0, 0, 1), -1);
        EXPECT.same("row", x.row(2, 1, 0, 1), 1);
        EXPECT.same("a ring of three", x.row(0, 2, 0, 1), -1);
        EXPECT.same("member", x.member(5), 2);
        EXPECT.same("row", x.row(3, 5, 0, 1), 3);
        EXPECT.same("member of the first tree", x.member(0), 4);
        EXPECT.same("two trees with members", x.row(2, 3, 0, 1), -1);
        EXPECT.same("a tree with and a date without", x.row(4, 2, 0, 1), 5);
        EXPECT.same("then it is joined", x.row(4, 5, 0, 1), -1);
        EXPECT.same("rows", x.count(1), 4);
        EXPECT.same("members", x.count(2), 2);
        OrderPassing y = Given.dates(6);
        for (int i = 0; i < 5; i++) {
            EXPECT.same("a chain of six", y.row(i, i + 1, 0, 0), i);
        }
        EXPECT.same("its ends", y.row(0, 5, 0, 0), -1);
    }

    private static void member() {
        OrderPassing x = Given.dates(4);
        EXPECT.same("member", x.member(1), 0);
        EXPECT.same("again", x.member(1), -1);
        EXPECT.same("row", x.row(2, 1, 0, 11), 1);
        EXPECT.same("its tree has one", x.member(2), -1);
        EXPECT.same("another tree", x.member(3), 2);
        EXPECT.same("another tree", x.member(0), 3);
        EXPECT.noSuch("date 4", () -> x.member(4));
        EXPECT.noSuch("date -1", () -> x.member(-1));
        EXPECT.noSuch("date MAX", () -> x.member(Integer.MAX_VALUE));
        EXPECT.same("members", x.count(2), 3);
        OrderPassing y = Given.dates(6);
        for (int i = 0; i < 6; i++) {
            EXPECT.same("six members", y.member(5 - i), i);
        }
    }

    private static void total() {
        OrderPassing x = Given.dates(2);
        x.weight(0, 3, 5);
        sum("a date without weights", x::total, 0);
        x.weight(1, 4, 2);
        sum("the product", x::total, 60 * 24);
        x.member(0);
        sum("with bounds", x::total, 60 * 24 * 4 * 9);
        x.member(1);
        sum("with two members", x::total, 60 * 24 * 4 * 8);
        for (int digit : WRONG_DIGITS) {
            EXPECT.noSuch("total digit " + digit, () -> x.total(digit));
        }
        EXPECT.same("digit 47", x.total(47), 0);
    }

    private static void totalOfTheGreatest() {
        OrderPassing x = Given.dates(6);
        for (int date = 0; date < 6; date++) {
            for (int year = 0; year < 12; year++) {
                x.weight(date, year, 999);
            }
            x.outlier(date, date * 2, 10);
        }
        BigInteger each = BigInteger.valueOf(12 * 10 * 999);
        EXPECT.same("free", Given.sum(x::total), each.multiply(BigInteger.valueOf(12)).pow(6));
        x.member(0);
        BigInteger rest = each.pow(6).multiply(BigInteger.valueOf(12).pow(5));
        // a member's year y leaves y + 1 years to the first bound and 12 - y to the last one
        EXPECT.same("one member", Given.sum(x::total), rest.multiply(BigInteger.valueOf(364)));
        for (int date = 1; date < 6; date++) {
            x.member(date);
        }
        BigInteger pairs = BigInteger.ZERO;
        BigInteger last = BigInteger.ZERO;
        for (int length = 1; length <= 12; length++) {
            pairs = pairs.add(BigInteger.valueOf(length).pow(6).multiply(BigInteger.valueOf(13 - length)));
            last = last.add(BigInteger.valueOf(length).pow(6));
        }
        EXPECT.same("six members", Given.sum(x::total), each.pow(6).multiply(pairs));
        EXPECT.same("six members, last 11", Given.sum(k -> x.bound(1, 11, k)), each.pow(6).multiply(last));
        EXPECT.same("narrow of the greatest", x.narrow(0, 1000, 1000), 11);
    }

    private static void answered() {
        OrderPassing x = Given.dates(2);
        x.weight(0, 0, 1);
        x.weight(0, 11, 2);
        x.weight(1, 11, 3);
        sum("year 0", k -> x.answered(0, 0, k), 12 * 36);
        sum("year 11", k -> x.answered(0, 11, k), 24 * 36);
        sum("year 5", k -> x.answered(0, 5, k), 0);
        x.row(0, 1, 0, 10);
        sum("out of the row", k -> x.answered(0, 0, k), 0);
        x.member(1);
        sum("with bounds", k -> x.answered(0, 11, k), 24 * 36 * 12);
        EXPECT.noSuch("date 2", () -> x.answered(2, 0, 0));
        EXPECT.noSuch("date -1", () -> x.answered(-1, 0, 0));
        for (int i = 0; i < 4; i++) {
            int year = WRONG_YEARS[i];
            int digit = WRONG_DIGITS[i];
            EXPECT.noSuch("answered year " + year, () -> x.answered(0, year, 0));
            EXPECT.noSuch("answered digit " + digit, () -> x.answered(0, 0, digit));
        }
    }

    private static void bound() {
        OrderPassing x = Given.dates(3);
        x.weight(0, 4, 1);
        x.weight(1, 6, 1);
        x.weight(2, 9, 1);
        for (int i = 0; i < 4; i++) {
            int which = WRONG_BOUNDS[i];
            int year = WRONG_YEARS[i];
            int digit = WRONG_DIGITS[i];
            EXPECT.noSuch("before the state: bound " + which, () -> x.bound(which, 0, 0));
            EXPECT.noSuch("before the state: year " + year, () -> x.bound(0, year, 0));
            EXPECT.noSuch("before the state: digit " + digit, () -> x.bound(1, 0, digit));
        }
        EXPECT.state("no members", () -> x.bound(0, 0, 0));
        x.row(0, 2, 0, 11);
        EXPECT.state("a row is no member", () -> x.bound(1, 11, 47));
        x.member(1);
        sum("first before", k -> x.bound(0, 5, k), 1728 * 6);
        sum("first at", k -> x.bound(0, 6, k), 1728 * 6);
        sum("first behind", k -> x.bound(0, 7, k), 0);
        sum("last before", k -> x.bound(1, 5, k), 0);
        sum("last at", k -> x.bound(1, 6, k), 1728 * 7);
        x.member(0);
        sum("first of two at", k -> x.bound(0, 4, k), 1728 * 6);
        sum("first of two behind", k -> x.bound(0, 5, k), 0);
        sum("last of two", k -> x.bound(1, 11, k), 1728 * 5);
        sum("all", x::total, 1728 * 5 * 6);
        for (int i = 0; i < 4; i++) {
            int which = WRONG_BOUNDS[i];
            EXPECT.noSuch("bound " + which, () -> x.bound(which, 0, 0));
        }
    }

    private static void both() {
        OrderPassing x = Given.dates(3);
        x.weight(0, 1, 1);
        x.weight(0, 2, 1);
        x.weight(1, 3, 1);
        x.weight(1, 4, 2);
        x.weight(2, 8, 1);
        sum("free", k -> x.both(0, 1, 1, 4, k), 12 * 24 * 12);
        x.row(0, 1, 2, 2);
        sum("in the row", k -> x.both(0, 2, 1, 4, k), 12 * 24 * 12);
        sum("turned", k -> x.both(1, 4, 0, 2, k), 12 * 24 * 12);
        sum("out of the row", k -> x.both(0, 1, 1, 4, k), 0);
        sum("with a free one", k -> x.both(2, 8, 0, 1, k), 12 * 12 * 12);
        sum("the same", k -> x.both(1, 4, 1, 4, k), 12 * 24 * 12);
        sum("the same, with two years", k -> x.both(1, 4, 1, 3, k), 0);
        sum("after both, all again", x::total, 12 * 12 * 12 + 12 * 24 * 12);
        x.member(2);
        x.member(0);
        sum("through the phase", k -> x.both(2, 8, 1, 3, k), 1728 * 2 * 4);
        for (int date = -1; date < 4; date += 4) {
            int wrong = date;
            EXPECT.noSuch("a", () -> x.both(wrong, 0, 0, 0, 0));
            EXPECT.noSuch("b", () -> x.both(0, 0, wrong, 0, 0));
        }
        for (int i = 0; i < 4; i++) {
            int year = WRONG_YEARS[i];
            int digit = WRONG_DIGITS[i];
            EXPECT.noSuch("x", () -> x.both(0, year, 1, 0, 0));
            EXPECT.noSuch("y", () -> x.both(0, 0, 1, year, 0));
            EXPECT.noSuch("digit", () -> x.both(0, 0, 1, 0, digit));
        }
        sum("after wrong ones", x::total, 1728 * 2 * 4 + 3456 * 3 * 4);
    }

    private static void span() {
        OrderPassing x = Given.dates(2);
        EXPECT.same("none", x.span(0, 0), -1);
        EXPECT.same("none", x.span(0, 1), -1);
        x.weight(0, 2, 1);
        x.weight(0, 9, 1);
        EXPECT.same("another date has no way", x.span(0, 0), -1);
        x.weight(1, 5, 1);
        EXPECT.same("least", x.span(0, 0), 2);
        EXPECT.same("greatest", x.span(0, 1), 9);
        x.row(0, 1, 0, 11);
        EXPECT.same("greatest in the row", x.span(0, 1), 2);
        x.outlier(0, 1, 10);
        EXPECT.same("least of outliers", x.span(0, 0), 0);
        EXPECT.same("greatest of outliers", x.span(0, 1), 5);
        EXPECT.noSuch("date 2", () -> x.span(2, 0));
        EXPECT.noSuch("date -1", () -> x.span(-1, 0));
        for (int which : WRONG_BOUNDS) {
            EXPECT.noSuch("which " + which, () -> x.span(0, which));
        }
    }

    private static void narrow() {
        OrderPassing x = Given.dates(2);
        EXPECT.same("the sum is 0", x.narrow(0, 1, 1), -1);
        x.weight(1, 0, 1);
        int[] weights = {0, 3, 0, 0, 2, 2, 0, 0, 0, 0, 0, 3};
        for (int year = 0; year < 12; year++) {
            x.weight(0, year, weights[year]);
        }
        EXPECT.same("the first of equal ones", x.narrow(0, 3, 10), 101);
        EXPECT.same("one more", x.narrow(0, 4, 10), 405);
        EXPECT.same("more", x.narrow(0, 5, 10), 104);
        EXPECT.same("a little above", x.narrow(0, 501, 1000), 105);
        EXPECT.same("more", x.narrow(0, 7, 10), 105);
        EXPECT.same("all", x.narrow(0, 1, 1), 111);
        EXPECT.same("the least share", x.narrow(0, 1, 1000), 101);
        EXPECT.same("year 0", x.narrow(1, 1000, 1000), 0);
        x.weight(0, 1, 0);
        EXPECT.same("the last year", x.narrow(0, 3, 7), 1111);
        int[][] wrong = {{0, 1}, {2, 1}, {1, 1001}, {1001, 1001}, {0, 0}, {-1, 1}, {1, 0}, {-2, -1}};
        for (int[] share : wrong) {
            EXPECT.argument("narrow " + share[0] + " of " + share[1], () -> x.narrow(0, share[0], share[1]));
            EXPECT.noSuch("date before share", () -> x.narrow(2, share[0], share[1]));
            EXPECT.noSuch("date before share", () -> x.narrow(-1, share[0], share[1]));
        }
    }

    private static void narrowAtTheEdge() {
        OrderPassing x = Given.dates(1);
        x.weight(0, 0, 999);
        x.weight(0, 5, 1);
        EXPECT.same("just enough", x.narrow(0, 999, 1000), 0);
        EXPECT.same("not enough", x.narrow(0, 1000, 1000), 5);
        x.weight(0, 5, 2);
        EXPECT.same("a hair too little", x.narrow(0, 999, 1000), 5);
        OrderPassing y = Given.dates(1);
        y.weight(0, 7, 1);
        y.outlier(0, 1, 1);
        EXPECT.same("a twelfth is a twelfth", y.narrow(0, 1, 12), 0);
        EXPECT.same("a twelfth is no eleventh", y.narrow(0, 1, 11), 1);
    }

    private static void fits() {
        OrderPassing x = Given.dates(2);
        EXPECT.same("no weights", x.fits(), false);
        x.weight(0, 3, 1);
        EXPECT.same("one without", x.fits(), false);
        x.weight(1, 2, 1);
        EXPECT.same("both", x.fits(), true);
        x.row(0, 1, 0, 11);
        EXPECT.same("the row does not hold", x.fits(), false);
        x.outlier(1, 1, 10);
        EXPECT.same("an outlier", x.fits(), true);
        x.outlier(1, 0, 10);
        x.weight(1, 3, 1);
        EXPECT.same("the least", x.fits(), true);
    }

    private static void fitless() {
        OrderPassing x = Given.dates(4);
        for (int date = 0; date < 4; date++) {
            x.weight(date, 5, 1);
        }
        EXPECT.same("member", x.member(3), 0);
        EXPECT.same("row", x.row(0, 1, 0, 3), 1);
        EXPECT.same("row", x.row(1, 2, 1, 1), 2);
        EXPECT.same("that one row", x.fitless(0), 2);
        EXPECT.same("no more", x.fitless(1), -1);
        EXPECT.same("far more", x.fitless(Integer.MAX_VALUE), -1);
        EXPECT.noSuch("k -1", () -> x.fitless(-1));
        EXPECT.noSuch("k MIN", () -> x.fitless(Integer.MIN_VALUE));
        EXPECT.same("what was left out is told still", x.fits(), false);
        EXPECT.same("rows", x.count(1), 2);
        EXPECT.same("members", x.count(2), 1);
        EXPECT.same("the rows join still", x.row(0, 2, 0, 0), -1);
        EXPECT.same("it is a member still", x.member(3), -1);
        x.weight(2, 6, 1);
        EXPECT.same("above 0", x.fitless(0), -1);
        sum("the member's bounds", x::total, 12 * 12 * 12 * 12 * 6 * 7);
        EXPECT.noSuch("above 0, k -1", () -> x.fitless(-1));
        x.weight(3, 5, 0);
        EXPECT.same("0 with nothing told", x.fitless(0), -1);
    }

    private static void fitlessGoesByNumbers() {
        OrderPassing x = Given.dates(5);
        x.weight(0, 0, 1);
        x.weight(1, 5, 1);
        for (int year = 0; year < 12; year++) {
            x.weight(2, year, 1);
            x.weight(3, year, 1);
        }
        x.weight(4, 9, 1);
        EXPECT.same("row", x.row(0, 2, 7, 7), 0);
        EXPECT.same("row", x.row(2, 1, 0, 11), 1);
        EXPECT.same("row", x.row(3, 2, 5, 11), 2);
        EXPECT.same("row", x.row(4, 3, 0, 0), 3);
        // without row 0 it stays 0, for rows 2 and 3 put date 2 behind year 11
        EXPECT.same("first left", x.fitless(0), 2);
        EXPECT.same("second left", x.fitless(1), 3);
        EXPECT.same("third left", x.fitless(2), -1);
        x.weight(4, 0, 1);
        EXPECT.same("first left", x.fitless(0), 0);
        EXPECT.same("second left", x.fitless(1), 1);
        EXPECT.same("third left", x.fitless(2), -1);
    }

    private static void count() {
        OrderPassing x = Given.dates(5);
        x.row(0, 1, 0, 0);
        x.row(1, 2, 0, 0);
        x.member(2);
        EXPECT.same("dates", x.count(0), 5);
        EXPECT.same("rows", x.count(1), 2);
        EXPECT.same("members", x.count(2), 1);
        x.row(0, 2, 0, 0);
        x.member(0);
        EXPECT.same("rows that must not be", x.count(1), 2);
        EXPECT.same("members that must not be", x.count(2), 1);
        int[] wrong = {-1, 3, Integer.MIN_VALUE, Integer.MAX_VALUE};
        for (int what : wrong) {
            EXPECT.noSuch("count " + what, () -> x.count(what));
        }
    }

    private static void wrongCallsChangeNothing() {
        OrderPassing x = Given.dates(6);
        for (int date = 0; date < 6; date++) {
            x.weight(date, date, 3);
        }
        x.member(0);
        BigInteger before = Given.sum(x::total);
        EXPECT.state("date", x::date);
        EXPECT.argument("weight", () -> x.weight(0, 0, 1000));
        EXPECT.argument("outlier", () -> Given.outlier(x, 0, 3, 2));
        EXPECT.argument("row", () -> x.row(0, 1, 5, 4));
        EXPECT.noSuch("row", () -> x.row(0, 6, 4, 4));
        EXPECT.noSuch("member", () -> x.member(6));
        EXPECT.noSuch("both", () -> x.both(0, 5, 1, 12, 0));
        EXPECT.noSuch("bound", () -> x.bound(0, 5, 48));
        EXPECT.argument("narrow", () -> x.narrow(0, 0, 1));
        EXPECT.same("total", Given.sum(x::total), before);
        EXPECT.same("row", x.row(0, 1, 0, 11), 1);
        EXPECT.same("rows", x.count(1), 1);
    }
}
