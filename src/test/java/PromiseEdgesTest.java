/**
 * The fifteen promises: a test for each sentence, or part of one, that names a boundary. The promise's
 * words stand above its tests. No object is asked more than 512 times.
 */
public final class PromiseEdgesTest {
    private static final Expect EXPECT = new Expect("PromiseEdgesTest");
    private static final int MIN = Integer.MIN_VALUE;
    private static final int MAX = Integer.MAX_VALUE;

    private PromiseEdgesTest() {
    }

    public static void main(String[] args) {
        newWithoutDates();
        newWithNothingTold();
        dateNumbers();
        dateWhenThereAreSix();
        weightWhatItWas();
        weightOutOfRange();
        outlierAboveOrBelow();
        outlierLeavesWeights();
        rowNumberOrNone();
        rowArgumentsBeforeNone();
        memberNumberOrNone();
        totalDigits();
        answeredAddsUp();
        answeredYearThatCannotBe();
        boundAddsUp();
        boundWithoutMembers();
        bothOfAnotherDate();
        bothOfTheSameDate();
        spanLeastAndGreatest();
        spanOfWaysThatCount();
        spanNone();
        spanWhich();
        narrowShortest();
        narrowFirstOfEqualOnes();
        narrowAtLeast();
        narrowAllYears();
        narrowNone();
        narrowAboveAndBelow();
        fitsAboveZero();
        fitsAtZero();
        fitlessGoneThroughByNumbers();
        fitlessTogetherWithWhatWasLeftOut();
        fitlessLeavesOutMembers();
        fitlessAllThatIsTold();
        fitlessNoneLeft();
        fitlessBehindTheLast();
        fitlessAboveZero();
        fitlessBelowZero();
        fitlessLeavesAllTold();
        countWhenEmptyAndFull();
        countNoneOfThese();
        EXPECT.finish();
    }

    private static void sum(String what, long got, long due) {
        EXPECT.same(what, got, due);
    }

    // Promise 1: "No dates, nothing told."

    private static void newWithoutDates() {
        OrderPassing x = new OrderPassing();
        EXPECT.same("dates", x.count(0), 0);
        EXPECT.noSuch("weight", () -> x.weight(0, 0, 0));
        EXPECT.noSuch("outlier", () -> Given.outlier(x, 0, 0, 1));
        EXPECT.noSuch("answered", () -> x.answered(0, 0, 0));
        EXPECT.noSuch("span", () -> x.span(0, 0));
        EXPECT.noSuch("narrow", () -> x.narrow(0, 1, 1));
        EXPECT.same("the first date", x.date(), 0);
    }

    private static void newWithNothingTold() {
        OrderPassing other = Given.datesIn(5, 4);
        other.row(0, 1, 0, 0);
        other.member(0);
        OrderPassing x = new OrderPassing();
        EXPECT.same("rows", x.count(1), 0);
        EXPECT.same("members", x.count(2), 0);
        EXPECT.same("fits", x.fits(), true);
        EXPECT.same("fitless", x.fitless(0), -1);
        EXPECT.state("bound", () -> x.bound(0, 0, 0));
        x.date();
        EXPECT.same("the first that is told", x.member(0), 0);
    }

    // Promise 2: "A date: its number. IllegalStateException: there are six."

    private static void dateNumbers() {
        OrderPassing x = new OrderPassing();
        for (int date = 0; date < 6; date++) {
            EXPECT.same("date " + date, x.date(), date);
        }
    }

    private static void dateWhenThereAreSix() {
        OrderPassing x = Given.dates(5);
        EXPECT.same("the sixth", x.date(), 5);
        EXPECT.state("the seventh", x::date);
        EXPECT.state("again", x::date);
        EXPECT.same("dates", x.count(0), 6);
        EXPECT.same("the sixth is there", x.member(5), 0);
        EXPECT.noSuch("the seventh is not", () -> x.member(6));
    }

    // Promise 3: "A date's weight for a year: what it was. .. IllegalArgumentException: it is not 0 .. 999."

    private static void weightWhatItWas() {
        OrderPassing x = Given.dates(6);
        int[] row = {0, 999, 999, 0, 1, 998, 0};
        int before = 0;
        for (int w : row) {
            EXPECT.same("to " + w, x.weight(5, 0, w), before);
            before = w;
        }
        EXPECT.same("another year's", x.weight(5, 1, 5), 0);
        EXPECT.same("another date's", x.weight(4, 1, 6), 0);
        EXPECT.same("the first one's", x.weight(5, 1, 7), 5);
    }

    private static void weightOutOfRange() {
        OrderPassing x = Given.dates(1);
        x.weight(0, 0, 999);
        EXPECT.argument("too small", () -> x.weight(0, 0, -1));
        EXPECT.argument("too large", () -> x.weight(0, 0, 1000));
        EXPECT.argument("far too small", () -> x.weight(0, 0, MIN));
        EXPECT.argument("far too large", () -> x.weight(0, 0, MAX));
        EXPECT.same("still", x.weight(0, 0, 0), 999);
    }

    // Promise 4: "A date's share of outliers. .. IllegalArgumentException: above or below."

    private static void outlierAboveOrBelow() {
        OrderPassing x = Given.datesIn(0);
        int[][] right = {{0, 1}, {1, 1}, {0, 10}, {10, 10}};
        for (int[] share : right) {
            x.outlier(0, share[0], share[1]);
            sum("a year with weight", Given.lastDigits(4, k -> x.answered(0, 0, k)), (share[1] - share[0]) * 12 + share[0]);
            sum("a year without", Given.lastDigits(4, k -> x.answered(0, 11, k)), share[0]);
        }
        int[][] wrong = {{-1, 1}, {-1, 10}, {2, 1}, {11, 10}, {0, 0}, {1, 0}, {0, 11}, {11, 11}, {0, -1}};
        for (int[] share : wrong) {
            EXPECT.argument(share[0] + " of " + share[1], () -> Given.outlier(x, 0, share[0], share[1]));
        }
        sum("the last right one stays", Given.lastDigits(4, k -> x.answered(0, 11, k)), 10);
    }

    private static void outlierLeavesWeights() {
        OrderPassing x = Given.dates(1);
        x.weight(0, 3, 999);
        x.outlier(0, 10, 10);
        EXPECT.same("the weight", x.weight(0, 3, 0), 999);
        EXPECT.same("no weight", x.weight(0, 4, 0), 0);
    }

    // Promise 5: "Tells a row: its number among what is told; NONE, if it must not be."

    private static void rowNumberOrNone() {
        OrderPassing x = Given.dates(4);
        EXPECT.same("a first row", x.row(0, 1, 0, 0), 0);
        EXPECT.same("it must not be", x.row(1, 0, 11, 11), OrderPassing.NONE);
        EXPECT.same("the next number", x.row(1, 2, 11, 11), 1);
        x.member(3);
        x.member(0);
        EXPECT.same("it must not be", x.row(2, 3, 0, 11), OrderPassing.NONE);
        EXPECT.same("rows", x.count(1), 2);
    }

    // "NoSuchElementException: dates; IllegalArgumentException: least or most": of a row that must not be, too

    private static void rowArgumentsBeforeNone() {
        OrderPassing x = Given.dates(2);
        x.row(0, 1, 0, 0);
        EXPECT.argument("least too small", () -> x.row(0, 1, -1, 0));
        EXPECT.argument("least above most", () -> x.row(0, 1, 1, 0));
        EXPECT.argument("most too large", () -> x.row(0, 1, 0, 12));
        EXPECT.argument("most too small", () -> x.row(0, 1, 0, -1));
        EXPECT.argument("least too large", () -> x.row(0, 1, 12, 11));
        EXPECT.argument("of a date and itself", () -> x.row(0, 0, 12, 12));
        EXPECT.noSuch("a is none", () -> x.row(2, 1, 0, 0));
        EXPECT.noSuch("b is none", () -> x.row(0, 2, 0, 0));
        EXPECT.noSuch("neither is one", () -> x.row(2, 2, 0, 0));
        EXPECT.noSuch("neither is one", () -> x.row(-1, -1, 0, 0));
    }

    // Promise 6: "Tells a member: its number among what is told; NONE, if its tree has one already (or it is one)."

    private static void memberNumberOrNone() {
        OrderPassing x = Given.dates(4);
        EXPECT.same("a first member", x.member(1), 0);
        EXPECT.same("it is one", x.member(1), OrderPassing.NONE);
        x.row(2, 1, 0, 0);
        EXPECT.same("its tree has one", x.member(2), OrderPassing.NONE);
        x.row(3, 2, 0, 0);
        EXPECT.same("its tree has one farther away", x.member(3), OrderPassing.NONE);
        EXPECT.same("another tree has none", x.member(0), 3);
        EXPECT.noSuch("no date", () -> x.member(4));
        EXPECT.same("members", x.count(2), 2);
    }

    // Promise 7: "A digit of the sum of all ways."

    private static void totalDigits() {
        OrderPassing x = Given.dates(2);
        x.weight(0, 0, 999);
        x.weight(1, 11, 999);
        // 11988 * 11988 = 143712144
        int[] due = {4, 4, 1, 2, 1, 7, 3, 4, 1};
        for (int digit = 0; digit < 48; digit++) {
            EXPECT.same("digit " + digit, x.total(digit), digit < due.length ? due[digit] : 0);
        }
        EXPECT.noSuch("digit -1", () -> x.total(-1));
        EXPECT.noSuch("digit 48", () -> x.total(48));
        EXPECT.noSuch("digit MIN", () -> x.total(MIN));
        EXPECT.noSuch("digit MAX", () -> x.total(MAX));
    }

    // Promise 8: "A digit of the sum of the ways in which a date has a year."

    private static void answeredAddsUp() {
        OrderPassing x = Given.evenDates(3, 2);
        x.row(2, 0, 3, 7);
        x.member(1);
        x.member(0);
        long total = Given.lastDigits(9, x::total);
        for (int date = 0; date < 3; date++) {
            long years = 0;
            for (int year = 0; year < 12; year++) {
                int askedDate = date;
                int askedYear = year;
                years += Given.lastDigits(9, k -> x.answered(askedDate, askedYear, k));
            }
            sum("all years of date " + date, years, total);
        }
    }

    private static void answeredYearThatCannotBe() {
        OrderPassing x = Given.evenDates(2, 1);
        x.row(0, 1, 11, 11);
        sum("the one year of a", Given.lastDigits(9, k -> x.answered(0, 0, k)), 144);
        sum("the one year of b", Given.lastDigits(9, k -> x.answered(1, 11, k)), 144);
        for (int year = 1; year < 12; year++) {
            int asked = year;
            sum("a in " + year, Given.lastDigits(9, k -> x.answered(0, asked, k)), 0);
            sum("b in " + (11 - year), Given.lastDigits(9, k -> x.answered(1, 11 - asked, k)), 0);
        }
    }

    // Promise 9: "A digit of the sum of the ways in which a bound has a year."

    private static void boundAddsUp() {
        OrderPassing x = Given.evenDates(3, 2);
        x.row(2, 0, 3, 7);
        x.member(1);
        x.member(0);
        long total = Given.lastDigits(9, x::total);
        for (int which = 0; which < 2; which++) {
            long years = 0;
            for (int year = 0; year < 12; year++) {
                int askedBound = which;
                int askedYear = year;
                years += Given.lastDigits(9, k -> x.bound(askedBound, askedYear, k));
            }
            sum("all years of bound " + which, years, total);
        }
        sum("no bound stays where it was asked for", Given.lastDigits(9, x::total), total);
    }

    // "IllegalStateException: there are no members."

    private static void boundWithoutMembers() {
        OrderPassing x = Given.datesIn(0, 0);
        EXPECT.state("dates alone", () -> x.bound(0, 0, 0));
        x.row(0, 1, 0, 0);
        EXPECT.state("a row", () -> x.bound(1, 11, 47));
        EXPECT.noSuch("no member either", () -> x.member(2));
        EXPECT.state("still", () -> x.bound(0, 0, 0));
        x.member(1);
        EXPECT.same("a member", x.bound(0, 0, 0), 8);
        OrderPassing y = Given.dates(1);
        y.member(0);
        EXPECT.same("a member whose sum is 0", y.bound(0, 0, 0), 0);
    }

    // Promise 10: "the ways in which a date has a year, and another one (or the same) one"

    private static void bothOfAnotherDate() {
        OrderPassing x = Given.datesIn(0, 11);
        sum("without a row", Given.lastDigits(9, k -> x.both(0, 0, 1, 11, k)), 144);
        sum("turned", Given.lastDigits(9, k -> x.both(1, 11, 0, 0, k)), 144);
        sum("a's year cannot be", Given.lastDigits(9, k -> x.both(0, 1, 1, 11, k)), 0);
        sum("b's year cannot be", Given.lastDigits(9, k -> x.both(0, 0, 1, 10, k)), 0);
        x.member(0);
        x.member(1);
        sum("through the phase", Given.lastDigits(9, k -> x.both(0, 0, 1, 11, k)), 144);
        sum("a's year cannot be in the phase", Given.lastDigits(9, k -> x.both(0, 1, 1, 11, k)), 0);
        sum("no year stays where it was asked for", Given.lastDigits(9, x::total), 144);
        EXPECT.same("nor does it for others", x.span(1, 0), 11);
    }

    private static void bothOfTheSameDate() {
        OrderPassing x = Given.evenDates(2, 1);
        x.row(0, 1, 2, 3);
        for (int year = 0; year < 12; year++) {
            for (int other = 0; other < 12; other++) {
                int a = year;
                int b = other;
                // a year of date 0 leaves two years to date 1, but 9 leaves one, and later ones none
                int ways = a == b ? Math.max(0, Math.min(2, 10 - a)) : 0;
                sum("years " + a + " and " + b, Given.lastDigits(3, k -> x.both(0, a, 0, b, k)), 144 * ways);
            }
        }
        OrderPassing y = Given.evenDates(1, 1);
        sum("one year of the only date", Given.lastDigits(9, k -> y.both(0, 11, 0, 11, k)), 12);
        sum("two years of the only date", Given.lastDigits(9, k -> y.both(0, 11, 0, 0, k)), 0);
    }

    // Promise 11: "The least year (0) or the greatest (1) that a date has in some way that counts more than 0; NONE."

    private static void spanLeastAndGreatest() {
        for (int year = 0; year < 12; year++) {
            OrderPassing x = Given.datesIn(year);
            EXPECT.same("the only year is the least", x.span(0, 0), year);
            EXPECT.same("and the greatest", x.span(0, 1), year);
        }
        OrderPassing y = Given.evenDates(2, 1);
        EXPECT.same("least of all", y.span(1, 0), 0);
        EXPECT.same("greatest of all", y.span(1, 1), 11);
        y.row(0, 1, 11, 11);
        EXPECT.same("least of a", y.span(0, 0), 0);
        EXPECT.same("greatest of a", y.span(0, 1), 0);
        EXPECT.same("least of b", y.span(1, 0), 11);
        EXPECT.same("greatest of b", y.span(1, 1), 11);
    }

    private static void spanOfWaysThatCount() {
        OrderPassing x = Given.datesIn(5);
        x.outlier(0, 1, 10);
        EXPECT.same("an outlier's least year", x.span(0, 0), 0);
        EXPECT.same("an outlier's greatest year", x.span(0, 1), 11);
        x.outlier(0, 0, 10);
        EXPECT.same("no outlier's least year", x.span(0, 0), 5);
        EXPECT.same("no outlier's greatest year", x.span(0, 1), 5);
    }

    private static void spanNone() {
        OrderPassing x = Given.datesIn(5, 4);
        x.row(0, 1, 0, 11);
        for (int which = 0; which < 2; which++) {
            EXPECT.same("the row does not hold", x.span(0, which), OrderPassing.NONE);
            EXPECT.same("at its other end", x.span(1, which), OrderPassing.NONE);
        }
        OrderPassing y = Given.datesIn(5);
        y.date();
        for (int which = 0; which < 2; which++) {
            EXPECT.same("another date counts nothing", y.span(0, which), OrderPassing.NONE);
            EXPECT.same("it counts nothing", y.span(1, which), OrderPassing.NONE);
        }
    }

    // "NoSuchElementException: date, or which."

    private static void spanWhich() {
        OrderPassing x = Given.datesIn(5);
        for (int which : new int[] {-1, 2, MIN, MAX}) {
            EXPECT.noSuch("which " + which, () -> x.span(0, which));
        }
        for (int date : new int[] {-1, 1, MIN, MAX}) {
            EXPECT.noSuch("date " + date, () -> x.span(date, 1));
        }
        OrderPassing y = Given.dates(1);
        EXPECT.noSuch("which 2, though the sum is 0", () -> y.span(0, 2));
    }

    // Promise 12: "The shortest row of years"

    private static void narrowShortest() {
        OrderPassing x = Given.dates(1);
        x.weight(0, 0, 4);
        x.weight(0, 1, 4);
        x.weight(0, 11, 7);
        EXPECT.same("the last year alone", x.narrow(0, 7, 15), 1111);
        EXPECT.same("two years", x.narrow(0, 8, 15), 1);
        EXPECT.same("eleven years", x.narrow(0, 11, 15), 111);
        EXPECT.same("twelve years", x.narrow(0, 12, 15), 11);
    }

    // "of equal ones the first"

    private static void narrowFirstOfEqualOnes() {
        OrderPassing x = Given.evenDates(1, 3);
        for (int length = 1; length <= 12; length++) {
            EXPECT.same(length + " years", x.narrow(0, length, 12), length - 1);
        }
        x.weight(0, 0, 2);
        x.weight(0, 11, 999);
        x.weight(0, 3, 999);
        EXPECT.same("not the heaviest, nor the last", x.narrow(0, 1, 3), 303);
    }

    // "count at least ABOVE of BELOW of all"

    private static void narrowAtLeast() {
        OrderPassing x = Given.dates(1);
        x.weight(0, 4, 1);
        x.weight(0, 9, 999);
        EXPECT.same("999 of 1000 are enough", x.narrow(0, 999, 1000), 909);
        EXPECT.same("999 of 1000 are not all", x.narrow(0, 1000, 1000), 409);
        EXPECT.same("1 of 1000 is enough", x.narrow(0, 1, 1000), 404);
        x.weight(0, 5, 1);
        EXPECT.same("1 of 1001 is not", x.narrow(0, 1, 1000), 909);
        EXPECT.same("999 of 1001 are not", x.narrow(0, 999, 1000), 509);
        OrderPassing y = Given.datesIn(7);
        y.outlier(0, 1, 1);
        // every year counts 1: the least difference that there is
        EXPECT.same("1 of 12 is 1 of 12", y.narrow(0, 1, 12), 0);
        EXPECT.same("1 of 12 is not 1 of 11", y.narrow(0, 1, 11), 1);
    }

    private static void narrowAllYears() {
        OrderPassing x = Given.evenDates(6, 999);
        for (int date = 0; date < 6; date++) {
            x.outlier(date, 5, 10);
        }
        x.member(5);
        for (int date = 0; date < 6; date++) {
            EXPECT.same("all years of the greatest sums, date " + date, x.narrow(date, 1000, 1000), 11);
        }
        EXPECT.same("eleven years of the greatest sums", x.narrow(0, 916, 1000), 10);
        EXPECT.same("a hair more", x.narrow(0, 917, 1000), 11);
        OrderPassing y = Given.datesIn(0);
        EXPECT.same("all in year 0", y.narrow(0, 1, 1), 0);
        EXPECT.same("all in year 0, of 1000", y.narrow(0, 1000, 1000), 0);
    }

    // "NONE, if the sum of all is 0"

    private static void narrowNone() {
        OrderPassing x = Given.dates(2);
        EXPECT.same("no weights", x.narrow(0, 1, 1000), OrderPassing.NONE);
        x.weight(0, 5, 1);
        EXPECT.same("another date counts nothing", x.narrow(0, 1, 1000), OrderPassing.NONE);
        x.weight(1, 4, 1);
        EXPECT.same("the sum is above 0", x.narrow(0, 1, 1000), 505);
        x.row(0, 1, 0, 11);
        EXPECT.same("the row does not hold", x.narrow(0, 1, 1), OrderPassing.NONE);
    }

    // "IllegalArgumentException: not 1 <= above <= below <= 1000."

    private static void narrowAboveAndBelow() {
        OrderPassing fitting = Given.datesIn(7);
        OrderPassing unfitting = Given.dates(1);
        for (OrderPassing x : new OrderPassing[] {fitting, unfitting}) {
            int due = x.fits() ? 707 : -1;
            for (int[] right : new int[][] {{1, 1}, {1, 1000}, {1000, 1000}, {999, 1000}}) {
                EXPECT.same(right[0] + " of " + right[1], x.narrow(0, right[0], right[1]), due);
            }
            int[][] wrong = {{0, 1}, {0, 0}, {-1, 1}, {2, 1}, {1, 0}, {1, -1}, {1000, 999}, {1, 1001}, {1001, 1001},
                {1001, 1000}, {0, 1000}, {MIN, 1}, {1, MAX}, {MAX, MAX}, {MIN, MAX}, {MAX, MIN}, {MIN, MIN}};
            for (int[] share : wrong) {
                EXPECT.argument(share[0] + " of " + share[1], () -> x.narrow(0, share[0], share[1]));
            }
        }
    }

    // Promise 13: "Whether the sum of all ways is above 0."

    private static void fitsAboveZero() {
        OrderPassing x = new OrderPassing();
        EXPECT.same("no dates: the sum is 1", x.fits(), true);
        OrderPassing y = Given.datesIn(0, 11);
        y.row(0, 1, 11, 11);
        y.member(0);
        EXPECT.same("one way of the dates", y.fits(), true);
        OrderPassing z = Given.evenDates(6, 999);
        EXPECT.same("great sums", z.fits(), true);
    }

    private static void fitsAtZero() {
        OrderPassing x = Given.dates(1);
        EXPECT.same("no weights", x.fits(), false);
        x.weight(0, 11, 1);
        EXPECT.same("a weight", x.fits(), true);
        x.weight(0, 11, 0);
        EXPECT.same("none again", x.fits(), false);
        OrderPassing y = Given.datesIn(1, 11);
        y.row(0, 1, 11, 11);
        EXPECT.same("a row too far by one", y.fits(), false);
        OrderPassing z = Given.datesIn(1, 0);
        z.row(0, 1, 0, 11);
        EXPECT.same("a row before by one", z.fits(), false);
    }

    // Promise 14: "what is told is gone through by numbers; what can be left out .. so that it stays 0 is left out"

    private static void fitlessGoneThroughByNumbers() {
        OrderPassing x = Given.datesIn(5, 4, 3, 2);
        for (int i = 0; i < 3; i++) {
            EXPECT.same("row", x.row(i, i + 1, 0, 11), i);
        }
        EXPECT.same("each would do: the last one is left", x.fitless(0), 2);
        EXPECT.same("it alone", x.fitless(1), OrderPassing.NONE);
        OrderPassing y = Given.datesIn(5, 4, 3, 2);
        for (int i = 2; i >= 0; i--) {
            y.row(i, i + 1, 0, 11);
        }
        y.weight(0, 4, 1);
        EXPECT.same("by numbers, not by dates: rows 0 and 1 do not hold", y.fitless(0), 1);
        y.weight(2, 4, 1);
        EXPECT.same("row 0 alone does not hold", y.fitless(0), 0);
    }

    // "(together with what was left out before)"

    private static void fitlessTogetherWithWhatWasLeftOut() {
        OrderPassing x = Given.datesIn(0, 0, 0);
        Given.weighEvenly(x, 1, 1);
        x.row(0, 1, 1, 11);
        x.row(1, 2, 0, 11);
        // each holds without the other one, so none can be left out
        EXPECT.same("the first is needed", x.fitless(0), 0);
        EXPECT.same("the second is needed", x.fitless(1), 1);
        EXPECT.same("no third", x.fitless(2), OrderPassing.NONE);
        OrderPassing y = Given.datesIn(5, 4, 5, 4);
        y.row(0, 1, 0, 11);
        y.row(2, 3, 0, 11);
        // each alone can be left out, but not both together
        EXPECT.same("the second is left, since the first was left out", y.fitless(0), 1);
        EXPECT.same("it alone", y.fitless(1), OrderPassing.NONE);
    }

    private static void fitlessLeavesOutMembers() {
        OrderPassing x = Given.datesIn(5, 4, 0, 11);
        x.member(0);
        x.member(2);
        x.row(1, 0, 2, 11);
        x.member(3);
        EXPECT.same("the row is left", x.fitless(0), 2);
        EXPECT.same("no member is", x.fitless(1), OrderPassing.NONE);
    }

    private static void fitlessAllThatIsTold() {
        OrderPassing x = Given.evenDates(6, 1);
        int[] least = {2, 2, 2, 3, 3};
        for (int i = 0; i < 5; i++) {
            x.row(i, i + 1, least[i], 11);
        }
        for (int k = 0; k < 5; k++) {
            EXPECT.same("twelve years behind needs all rows", x.fitless(k), k);
        }
        EXPECT.same("there are five", x.fitless(5), OrderPassing.NONE);
        EXPECT.same("a member", x.member(0), 5);
        EXPECT.same("is not left", x.fitless(5), OrderPassing.NONE);
    }

    // "The number of the k-th that is left, by numbers; NONE, if there is none"

    private static void fitlessNoneLeft() {
        OrderPassing x = Given.dates(2);
        EXPECT.same("nothing is told", x.fitless(0), OrderPassing.NONE);
        x.row(0, 1, 0, 0);
        x.member(0);
        EXPECT.same("all can be left out", x.fitless(0), OrderPassing.NONE);
        EXPECT.same("it does not fit", x.fits(), false);
    }

    private static void fitlessBehindTheLast() {
        OrderPassing x = Given.datesIn(5, 4);
        x.row(0, 1, 0, 11);
        EXPECT.same("the only one", x.fitless(0), 0);
        for (int k : new int[] {1, 2, 5, 6, 7, 512, MAX}) {
            EXPECT.same("k " + k, x.fitless(k), OrderPassing.NONE);
        }
    }

    // "or if the sum is above 0"

    private static void fitlessAboveZero() {
        OrderPassing x = Given.datesIn(5, 5);
        EXPECT.same("nothing is told", x.fitless(0), OrderPassing.NONE);
        x.row(0, 1, 0, 0);
        x.member(1);
        for (int k : new int[] {0, 1, MAX}) {
            EXPECT.same("k " + k, x.fitless(k), OrderPassing.NONE);
        }
        EXPECT.same("no dates", new OrderPassing().fitless(0), OrderPassing.NONE);
    }

    // "NoSuchElementException: k is below 0."

    private static void fitlessBelowZero() {
        OrderPassing unfitting = Given.datesIn(5, 4);
        unfitting.row(0, 1, 0, 11);
        OrderPassing fitting = Given.datesIn(5);
        OrderPassing empty = new OrderPassing();
        for (OrderPassing x : new OrderPassing[] {unfitting, fitting, empty}) {
            EXPECT.noSuch("k -1", () -> x.fitless(-1));
            EXPECT.noSuch("k MIN", () -> x.fitless(MIN));
        }
    }

    private static void fitlessLeavesAllTold() {
        OrderPassing x = Given.datesIn(5, 4, 4);
        x.row(1, 2, 0, 0);
        x.row(0, 1, 0, 11);
        x.member(2);
        EXPECT.same("the second row", x.fitless(0), 1);
        EXPECT.same("the same again", x.fitless(0), 1);
        EXPECT.same("rows", x.count(1), 2);
        EXPECT.same("members", x.count(2), 1);
        EXPECT.same("it does not fit", x.fits(), false);
        EXPECT.same("joined still", x.row(2, 0, 0, 11), OrderPassing.NONE);
        EXPECT.same("a member still", x.member(1), OrderPassing.NONE);
        x.weight(0, 4, 1);
        sum("both rows and the bounds", Given.lastDigits(9, x::total), 1728 * 5 * 8);
    }

    // Promise 15: "0 dates, 1 rows, 2 members. NoSuchElementException: none of these."

    private static void countWhenEmptyAndFull() {
        OrderPassing x = new OrderPassing();
        counts("empty", x, 0, 0, 0);
        for (int date = 0; date < 6; date++) {
            x.date();
        }
        counts("six dates", x, 6, 0, 0);
        for (int i = 0; i < 5; i++) {
            x.row(i, i + 1, 0, 0);
        }
        counts("five rows", x, 6, 5, 0);
        x.member(0);
        x.member(1);
        x.row(0, 5, 0, 0);
        counts("what must not be is not counted", x, 6, 5, 1);
        OrderPassing y = Given.dates(6);
        for (int date = 0; date < 6; date++) {
            y.member(date);
        }
        counts("six members", y, 6, 0, 6);
    }

    private static void counts(String when, OrderPassing x, int dates, int rows, int members) {
        EXPECT.same(when + ": dates", x.count(0), dates);
        EXPECT.same(when + ": rows", x.count(1), rows);
        EXPECT.same(when + ": members", x.count(2), members);
    }

    private static void countNoneOfThese() {
        OrderPassing x = Given.dates(6);
        for (int what : new int[] {-1, 3, 4, 6, MIN, MAX}) {
            EXPECT.noSuch("count " + what, () -> x.count(what));
            EXPECT.noSuch("new count " + what, () -> new OrderPassing().count(what));
        }
    }
}
