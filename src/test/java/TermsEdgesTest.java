import java.math.BigInteger;
import java.util.ArrayList;
import java.util.List;

/**
 * The head of the document and its terms: a test for each sentence that names a boundary. The sentence
 * stands above its test. No object is asked more than 512 times.
 */
public final class TermsEdgesTest {
    private static final Expect EXPECT = new Expect("TermsEdgesTest");
    private static final int MIN = Integer.MIN_VALUE;
    private static final int MAX = Integer.MAX_VALUE;

    private static final List<Given.Named> WITH_DATE = List.of(
        new Given.Named("weight", (x, date) -> x.weight(date, 0, 1)),
        new Given.Named("outlier", (x, date) -> Given.outlier(x, date, 0, 1)),
        new Given.Named("row a", (x, date) -> x.row(date, 0, 0, 0)),
        new Given.Named("row b", (x, date) -> x.row(0, date, 0, 0)),
        new Given.Named("member", (x, date) -> x.member(date)),
        new Given.Named("answered", (x, date) -> x.answered(date, 0, 0)),
        new Given.Named("both a", (x, date) -> x.both(date, 0, 0, 0, 0)),
        new Given.Named("both b", (x, date) -> x.both(0, 0, date, 0, 0)),
        new Given.Named("span", (x, date) -> x.span(date, 0)),
        new Given.Named("narrow", (x, date) -> x.narrow(date, 1, 1)));

    private static final List<Given.Named> WITH_YEAR = List.of(
        new Given.Named("weight", (x, year) -> x.weight(0, year, 1)),
        new Given.Named("answered", (x, year) -> x.answered(0, year, 0)),
        new Given.Named("bound", (x, year) -> x.bound(0, year, 0)),
        new Given.Named("both x", (x, year) -> x.both(0, year, 1, 0, 0)),
        new Given.Named("both y", (x, year) -> x.both(0, 0, 1, year, 0)),
        new Given.Named("both x of one date", (x, year) -> x.both(1, year, 1, 0, 0)),
        new Given.Named("both y of one date", (x, year) -> x.both(1, 0, 1, year, 0)));

    private static final List<Given.Named> WITH_DIGIT = List.of(
        new Given.Named("total", (x, digit) -> x.total(digit)),
        new Given.Named("answered", (x, digit) -> x.answered(0, 0, digit)),
        new Given.Named("bound 0", (x, digit) -> x.bound(0, 0, digit)),
        new Given.Named("bound 1", (x, digit) -> x.bound(1, 0, digit)),
        new Given.Named("both", (x, digit) -> x.both(0, 0, 1, 0, digit)),
        new Given.Named("both of one date", (x, digit) -> x.both(0, 0, 0, 0, digit)));

    private static final List<Given.Named> WITH_BOUND = List.of(
        new Given.Named("bound", (x, which) -> x.bound(which, 0, 0)),
        new Given.Named("span", (x, which) -> x.span(0, which)));

    private TermsEdgesTest() {
    }

    public static void main(String[] args) {
        theLastCallIsAsGoodAsTheFirst();
        theDearestCallsToTheLast();
        aFullObjectToTheLast();
        sumsHoweverGreat();
        sumsThatBecomeATenfold();
        years();
        dates();
        datesThatAreNotYet();
        weights();
        weightsAtFirst();
        shares();
        sharesAtFirst();
        countsWithoutOutliers();
        countsOfOutliersAlone();
        countsWithoutWeights();
        numbersOfWhatIsTold();
        rowsHoldFromLeastToMost();
        leastAndMost();
        noRowBetweenWhatRowsJoin();
        noRowFromADateToItself();
        noRowBetweenTwoMembersTrees();
        rowsToOneMembersTree();
        oneMemberInATree();
        nothingMoreWhenAllIsTold();
        noBoundsWithoutMembers();
        boundsRoundOneMember();
        boundsRoundAllMembers();
        boundsRoundMembersAlone();
        theEmptyProduct();
        bounds();
        digits();
        noSuchElementComesFirst();
        noSuchElementBeforeTheState();
        EXPECT.finish();
    }

    private static void sum(String what, long got, long due) {
        EXPECT.same(what, got, due);
    }

    /** Values inside answer; values outside have no such element. */
    private static void range(OrderPassing x, List<Given.Named> calls, int[] inside, int[] outside) {
        for (Given.Named call : calls) {
            for (int value : inside) {
                EXPECT.answers(call.name() + " with " + value, () -> call.asked().with(x, value));
            }
            for (int value : outside) {
                EXPECT.noSuch(call.name() + " with " + value, () -> call.asked().with(x, value));
            }
        }
    }

    // "An object is used for at most 512 calls after it has been made"

    private static void theLastCallIsAsGoodAsTheFirst() {
        OrderPassing x = Given.dates(1);
        int before = 0;
        for (int call = 2; call <= 511; call++) {
            int w = call * 7 % 1000;
            EXPECT.same("call " + call, x.weight(0, 11, w), before);
            before = w;
        }
        // 12 * (511 * 7 % 1000) = 12 * 577 = 6924
        EXPECT.same("call 512", x.total(3), 6);
    }

    private static void theDearestCallsToTheLast() {
        OrderPassing x = Given.datesIn(5, 5, 5, 5, 5, 5);
        for (int i = 0; i < 5; i++) {
            x.row(i, i + 1, i == 4 ? 1 : 0, 11);
        }
        x.member(3);
        for (int call = 19; call <= 512; call++) {
            EXPECT.same("call " + call, x.fitless(0), 4);
        }
    }

    private static void aFullObjectToTheLast() {
        OrderPassing x = Given.dates(6);
        for (int i = 0; i < 6; i++) {
            x.member(i);
        }
        for (int call = 13; call <= 511; call++) {
            int kind = call % 3;
            if (kind == 0) {
                EXPECT.state("call " + call, x::date);
            } else {
                int date = call % 6;
                EXPECT.same("call " + call, kind == 1 ? x.member(date) : x.row(date, 5 - date, 0, 0), -1);
            }
        }
        EXPECT.same("call 512", x.count(2), 6);
    }

    // "sums over all ways are exact, however great"

    private static void sumsHoweverGreat() {
        OrderPassing x = Given.evenDates(6, 999);
        for (int date = 0; date < 6; date++) {
            x.outlier(date, 10, 10);
            x.member(date);
        }
        BigInteger pairs = BigInteger.ZERO;
        for (int length = 1; length <= 12; length++) {
            pairs = pairs.add(BigInteger.valueOf(length).pow(6).multiply(BigInteger.valueOf(13 - length)));
        }
        BigInteger due = BigInteger.valueOf(10 * 12 * 999).pow(6).multiply(pairs);
        EXPECT.same("six members", Given.sum(x::total), due);
        OrderPassing y = Given.evenDates(6, 999);
        for (int date = 0; date < 6; date++) {
            y.outlier(date, 0, 10);
        }
        y.member(5);
        BigInteger greatest = BigInteger.valueOf(10 * 12 * 999).pow(6).multiply(BigInteger.valueOf(12).pow(5));
        EXPECT.same("one member: the greatest sum", Given.sum(y::total), greatest.multiply(BigInteger.valueOf(364)));
    }

    private static void sumsThatBecomeATenfold() {
        OrderPassing x = Given.dates(4);
        int[] weights = {1000, 500, 1000, 500};
        for (int date = 0; date < 4; date++) {
            x.weight(date, 0, weights[date] / 2);
            x.weight(date, 1, weights[date] / 2);
            x.outlier(date, 10, 10);
        }
        x.row(0, 1, 10, 10);
        x.row(2, 3, 10, 10);
        // two pairs of years that count 10000 * 5000 each, of both rows
        EXPECT.same("10^16", Given.sum(x::total), BigInteger.TEN.pow(16));
        EXPECT.same("its half", Given.sum(k -> x.answered(3, 11, k)), BigInteger.TEN.pow(16).shiftRight(1));
        OrderPassing y = Given.dates(2);
        for (int date = 0; date < 2; date++) {
            y.weight(date, 0, weights[date] / 2);
            y.weight(date, 1, weights[date] / 2);
            y.outlier(date, 10, 10);
        }
        y.row(0, 1, 10, 10);
        EXPECT.same("10^8", Given.sum(y::total), BigInteger.TEN.pow(8));
    }

    // "YEARS are 0 .. 11."

    private static void years() {
        OrderPassing x = Given.evenDates(2, 1);
        x.member(0);
        range(x, WITH_YEAR, new int[] {0, 11}, new int[] {-1, 12, 48, MIN, MAX});
    }

    // "DATES are 0 .. 5"

    private static void dates() {
        range(Given.dates(6), WITH_DATE, new int[] {0, 5}, new int[] {-1, 6, 7, 12, MIN, MAX});
    }

    // "there is no such date": one that has not been made is none

    private static void datesThatAreNotYet() {
        for (int number = 0; number < 6; number++) {
            range(Given.dates(number), WITH_DATE, new int[0], new int[] {number, 5});
        }
    }

    // "each with a WEIGHT 0 .. 999 for each year"

    private static void weights() {
        OrderPassing x = Given.dates(6);
        EXPECT.same("the greatest", x.weight(5, 11, 999), 0);
        EXPECT.same("the least", x.weight(5, 11, 0), 999);
        EXPECT.same("it was the least", x.weight(5, 11, 1), 0);
        for (int w : new int[] {-1, 1000, -999, MIN, MAX}) {
            EXPECT.argument("weight " + w, () -> x.weight(5, 11, w));
        }
        EXPECT.same("none of them was taken", x.weight(5, 11, 0), 1);
    }

    // "(0 at first)"

    private static void weightsAtFirst() {
        OrderPassing x = Given.dates(6);
        for (int date = 0; date < 6; date++) {
            for (int year = 0; year < 12; year++) {
                EXPECT.same("weight of " + date + " for " + year, x.weight(date, year, 999), 0);
            }
        }
    }

    // "a SHARE of outliers, ABOVE of BELOW (0 .. BELOW; 1 .. 10"

    private static void shares() {
        OrderPassing x = Given.dates(1);
        for (int below = -2; below <= 12; below++) {
            for (int above = -2; above <= 12; above++) {
                share(x, above, below, 1 <= below && below <= 10 && 0 <= above && above <= below);
            }
        }
        int[][] far = {{MIN, 1}, {MAX, 1}, {0, MIN}, {0, MAX}, {MIN, MIN}, {MAX, MAX}, {MIN, MAX}, {MAX, MIN}};
        for (int[] wrong : far) {
            share(x, wrong[0], wrong[1], false);
        }
    }

    private static void share(OrderPassing x, int above, int below, boolean may) {
        String call = "outlier " + above + " of " + below;
        if (may) {
            EXPECT.answers(call, () -> Given.outlier(x, 0, above, below));
        } else {
            EXPECT.argument(call, () -> Given.outlier(x, 0, above, below));
        }
    }

    // "0 of 1 at first)"

    private static void sharesAtFirst() {
        OrderPassing x = Given.dates(1);
        x.outlier(0, 10, 10);
        x.weight(0, 0, 1);
        x.date();
        x.weight(1, 0, 1);
        // date 0 counts 10 each year, 120 in all; date 1 counts 1 * 12 * 1 in year 0 and nothing in others
        sum("year 0", Given.lastDigits(6, k -> x.answered(1, 0, k)), 120 * 12);
        sum("year 1", Given.lastDigits(6, k -> x.answered(1, 1, k)), 0);
        x.outlier(1, 0, 1);
        sum("the same as told", Given.lastDigits(6, k -> x.answered(1, 0, k)), 120 * 12);
    }

    // "What a year COUNTS for a date: (BELOW less ABOVE) * 12 * its weight": with ABOVE 0, and with 1 of 10

    private static void countsWithoutOutliers() {
        OrderPassing x = Given.dates(1);
        x.weight(0, 0, 999);
        x.weight(0, 11, 1);
        x.outlier(0, 0, 10);
        sum("0 of 10, the greatest weight", Given.lastDigits(8, k -> x.answered(0, 0, k)), 10 * 12 * 999);
        sum("0 of 10, the least weight", Given.lastDigits(8, k -> x.answered(0, 11, k)), 10 * 12);
        sum("0 of 10, no weight", Given.lastDigits(8, k -> x.answered(0, 5, k)), 0);
        x.outlier(0, 1, 10);
        sum("1 of 10, the greatest weight", Given.lastDigits(8, k -> x.answered(0, 0, k)), 9 * 12 * 999 + 1000);
        sum("1 of 10, no weight", Given.lastDigits(8, k -> x.answered(0, 5, k)), 1000);
    }

    // "and ABOVE * the sum of the date's weights": alone, if ABOVE is BELOW

    private static void countsOfOutliersAlone() {
        OrderPassing x = Given.dates(1);
        x.weight(0, 0, 999);
        x.weight(0, 11, 1);
        for (int below = 1; below <= 10; below += 9) {
            x.outlier(0, below, below);
            for (int year = 0; year < 12; year++) {
                int asked = year;
                sum("year " + year, Given.lastDigits(8, k -> x.answered(0, asked, k)), below * 1000);
            }
        }
    }

    private static void countsWithoutWeights() {
        OrderPassing x = Given.dates(1);
        x.outlier(0, 10, 10);
        sum("outliers of no weights", Given.lastDigits(48, x::total), 0);
        EXPECT.same("they do not fit", x.fits(), false);
    }

    // "What is TOLD is numbered 0, 1, .. in the order in which it was told"

    private static void numbersOfWhatIsTold() {
        OrderPassing x = Given.dates(6);
        EXPECT.same("a member", x.member(5), 0);
        EXPECT.same("a row", x.row(0, 1, 0, 0), 1);
        EXPECT.same("a member that must not be", x.member(5), -1);
        EXPECT.same("a row that must not be", x.row(1, 0, 0, 0), -1);
        EXPECT.argument("a row with wrong arguments", () -> x.row(1, 2, 1, 0));
        EXPECT.noSuch("a member that is no date", () -> x.member(6));
        EXPECT.same("they took no number", x.member(0), 2);
        EXPECT.same("a row", x.row(2, 3, 0, 0), 3);
        EXPECT.same("a row", x.row(3, 4, 0, 0), 4);
        EXPECT.same("the last that can be told", x.row(4, 5, 0, 0), 5);
    }

    // "the year of date b less that of date a is LEAST .. MOST": both ends are in, and years do not wrap around

    private static void rowsHoldFromLeastToMost() {
        for (int least = 0; least <= 11; least++) {
            for (int most = least; most <= 11; most++) {
                everyPairOfYears(least, most);
            }
        }
    }

    private static void everyPairOfYears(int least, int most) {
        OrderPassing x = Given.evenDates(2, 1);
        x.row(1, 0, least, most);
        for (int a = 0; a < 12; a++) {
            for (int b = 0; b < 12; b++) {
                boolean holds = least <= b - a && b - a <= most;
                String call = "row " + least + " .. " + most + ", years " + a + " and " + b;
                // each way counts 144
                EXPECT.same(call, x.both(1, a, 0, b, 2), holds ? 1 : 0);
            }
        }
    }

    // "(0 <= LEAST <= MOST <= 11)"

    private static void leastAndMost() {
        for (int least = -2; least <= 13; least++) {
            for (int most = -2; most <= 13; most++) {
                rowWith(least, most, 0 <= least && least <= most && most <= 11);
            }
        }
        int[][] far = {{MIN, 0}, {MIN, 11}, {MIN, MAX}, {0, MAX}, {11, MAX}, {MAX, MAX}, {MAX, MIN}, {MIN, MIN}, {0, MIN}};
        for (int[] wrong : far) {
            rowWith(wrong[0], wrong[1], false);
        }
    }

    private static void rowWith(int least, int most, boolean may) {
        OrderPassing x = Given.dates(2);
        String call = "row " + least + " .. " + most;
        if (may) {
            EXPECT.same(call, x.row(0, 1, least, most), 0);
        } else {
            EXPECT.argument(call, () -> x.row(0, 1, least, most));
            EXPECT.same("it was not told", x.count(1), 0);
        }
    }

    // "none joins two dates that rows join already"

    private static void noRowBetweenWhatRowsJoin() {
        OrderPassing x = Given.dates(6);
        x.row(0, 1, 3, 4);
        EXPECT.same("the same row", x.row(0, 1, 3, 4), -1);
        EXPECT.same("another one of the same dates", x.row(0, 1, 0, 11), -1);
        EXPECT.same("turned", x.row(1, 0, 3, 4), -1);
        x.row(5, 4, 0, 0);
        x.row(3, 4, 0, 0);
        EXPECT.same("over one date", x.row(3, 5, 0, 0), -1);
        EXPECT.same("two trees", x.row(3, 1, 0, 0), 3);
        EXPECT.same("over four rows", x.row(5, 0, 0, 0), -1);
        EXPECT.same("over four rows, turned", x.row(0, 5, 0, 0), -1);
        EXPECT.same("the last date", x.row(2, 5, 0, 0), 4);
        for (int a = 0; a < 6; a++) {
            for (int b = 0; b < 6; b++) {
                EXPECT.same("all are joined: " + a + ", " + b, x.row(a, b, 0, 11), -1);
            }
        }
        EXPECT.same("rows", x.count(1), 5);
    }

    private static void noRowFromADateToItself() {
        OrderPassing x = Given.evenDates(1, 1);
        EXPECT.same("a ring of one", x.row(0, 0, 0, 0), -1);
        EXPECT.same("a ring of one that cannot hold", x.row(0, 0, 1, 11), -1);
        EXPECT.same("rows", x.count(1), 0);
        EXPECT.same("it fits", x.fits(), true);
        x.member(0);
        EXPECT.same("a member's ring of one", x.row(0, 0, 0, 0), -1);
    }

    // "none joins two trees that both have a MEMBER"

    private static void noRowBetweenTwoMembersTrees() {
        OrderPassing x = Given.dates(6);
        x.member(0);
        x.member(5);
        EXPECT.same("two members", x.row(0, 5, 0, 11), -1);
        EXPECT.same("turned", x.row(5, 0, 0, 11), -1);
        x.row(0, 1, 0, 0);
        x.row(4, 5, 0, 0);
        EXPECT.same("two of their trees", x.row(1, 4, 0, 11), -1);
        EXPECT.same("a member and the other's tree", x.row(0, 4, 0, 11), -1);
        EXPECT.same("the other's tree and a member", x.row(4, 0, 0, 11), -1);
        EXPECT.same("rows", x.count(1), 2);
    }

    private static void rowsToOneMembersTree() {
        OrderPassing x = Given.dates(6);
        x.member(0);
        EXPECT.same("a member first", x.row(0, 1, 0, 0), 1);
        EXPECT.same("a member's tree second", x.row(2, 1, 0, 0), 2);
        EXPECT.same("two trees without one", x.row(3, 4, 0, 0), 3);
        EXPECT.same("then one of them with one", x.row(4, 2, 0, 0), 4);
        EXPECT.same("it has a member now", x.member(3), -1);
        x.member(5);
        EXPECT.same("so that no other member's tree joins it", x.row(3, 5, 0, 0), -1);
    }

    // "A tree has at most one member."

    private static void oneMemberInATree() {
        for (int member = 0; member < 6; member++) {
            OrderPassing x = Given.dates(6);
            for (int i = 0; i < 5; i++) {
                x.row(i, i + 1, 0, 0);
            }
            EXPECT.same("the one member", x.member(member), 5);
            for (int date = 0; date < 6; date++) {
                EXPECT.same("another one", x.member(date), -1);
            }
            EXPECT.same("members", x.count(2), 1);
        }
    }

    /** Six is all that can be told of six dates: five rows and a member, six members, or between. */
    private static void nothingMoreWhenAllIsTold() {
        for (int rows = 0; rows <= 5; rows++) {
            OrderPassing x = Given.dates(6);
            for (int i = 0; i < rows; i++) {
                EXPECT.same("row", x.row(i + 1, i, 0, 0), i);
            }
            for (int date = rows; date < 6; date++) {
                EXPECT.same("member", x.member(date), date);
            }
            for (int a = 0; a < 6; a++) {
                EXPECT.same("one member more", x.member(a), -1);
                for (int b = 0; b < 6; b++) {
                    EXPECT.same("one row more", x.row(a, b, 0, 11), -1);
                }
            }
            EXPECT.same("rows", x.count(1), rows);
            EXPECT.same("members", x.count(2), 6 - rows);
        }
    }

    // "and, if there are members, the two BOUNDS a year each"

    private static void noBoundsWithoutMembers() {
        OrderPassing x = Given.datesIn(0, 11);
        sum("no members: no bounds", Given.lastDigits(6, x::total), 144);
        x.row(0, 1, 11, 11);
        sum("a row makes no bounds", Given.lastDigits(6, x::total), 144);
        x.member(0);
        sum("one member: bounds", Given.lastDigits(6, x::total), 144 * 12);
    }

    // "first <= a member's year <= last"

    private static void boundsRoundOneMember() {
        for (int member = 0; member < 12; member++) {
            OrderPassing x = Given.datesIn(member);
            x.member(0);
            sum("all", Given.lastDigits(4, x::total), 12 * (member + 1) * (12 - member));
            for (int year = 0; year < 12; year++) {
                int asked = year;
                String of = " " + year + " of the member's year " + member;
                sum("first" + of, Given.lastDigits(4, k -> x.bound(0, asked, k)), year <= member ? 12 * (12 - member) : 0);
                sum("last" + of, Given.lastDigits(4, k -> x.bound(1, asked, k)), year >= member ? 12 * (member + 1) : 0);
            }
        }
    }

    private static void boundsRoundAllMembers() {
        OrderPassing x = Given.datesIn(0, 11, 5);
        x.member(0);
        x.member(1);
        x.member(2);
        sum("one pair alone is left", Given.lastDigits(6, x::total), 1728);
        sum("first 0", Given.lastDigits(6, k -> x.bound(0, 0, k)), 1728);
        sum("first 1", Given.lastDigits(6, k -> x.bound(0, 1, k)), 0);
        sum("last 11", Given.lastDigits(6, k -> x.bound(1, 11, k)), 1728);
        sum("last 10", Given.lastDigits(6, k -> x.bound(1, 10, k)), 0);
        OrderPassing y = Given.datesIn(0, 0);
        y.member(0);
        y.member(1);
        // first is 0, and last may be 0 too
        sum("first and last in one year", Given.lastDigits(6, k -> y.bound(1, 0, k)), 144);
        sum("all of them", Given.lastDigits(6, y::total), 144 * 12);
    }

    /** The bounds hold members, not the other dates of their trees; wherever a member stands in its tree. */
    private static void boundsRoundMembersAlone() {
        int[][] trees = {{0, 1, 2}, {2, 1, 0}, {1, 0, 2}};
        for (int[] tree : trees) {
            OrderPassing x = Given.dates(4);
            x.weight(tree[0], 0, 1);
            x.weight(tree[1], 5, 1);
            x.weight(tree[2], 11, 1);
            x.weight(3, 6, 1);
            x.row(tree[0], tree[1], 5, 5);
            x.row(tree[1], tree[2], 6, 6);
            x.member(tree[1]);
            x.member(3);
            // members in 5 and 6: first is 0 .. 5, last is 6 .. 11
            sum("all", Given.lastDigits(9, x::total), 20736 * 36);
            sum("of a date outside the tree", Given.lastDigits(9, k -> x.answered(3, 6, k)), 20736 * 36);
            sum("of a date that is no member", Given.lastDigits(9, k -> x.answered(tree[0], 0, k)), 20736 * 36);
            sum("first at a member", Given.lastDigits(9, k -> x.bound(0, 5, k)), 20736 * 6);
            sum("first behind it", Given.lastDigits(9, k -> x.bound(0, 6, k)), 0);
        }
    }

    // "It counts the product of what the dates' years count."

    private static void theEmptyProduct() {
        OrderPassing x = new OrderPassing();
        sum("of no dates", Given.lastDigits(48, x::total), 1);
        x.date();
        sum("of a date that counts nothing", Given.lastDigits(48, x::total), 0);
    }

    // "there is no such .. bound": 0 and 1 are

    private static void bounds() {
        OrderPassing x = Given.evenDates(1, 1);
        x.member(0);
        range(x, WITH_BOUND, new int[] {0, 1}, new int[] {-1, 2, MIN, MAX});
    }

    // "digit (0 .. 47, 0 the last one)"

    private static void digits() {
        OrderPassing x = Given.evenDates(2, 1);
        x.member(0);
        range(x, WITH_DIGIT, new int[] {0, 8, 47}, new int[] {-1, 48, 49, MIN, MAX});
        OrderPassing y = Given.datesIn(7, 7);
        EXPECT.same("the last digit of 144", y.total(0), 4);
        EXPECT.same("the one before", y.total(1), 4);
        EXPECT.same("the first one", y.total(2), 1);
        for (int digit = 3; digit < 48; digit++) {
            EXPECT.same("no digit " + digit, y.total(digit), 0);
        }
    }

    // "NoSuchElementException: .. IllegalArgumentException, then IllegalStateException": the order

    private static void noSuchElementComesFirst() {
        OrderPassing x = Given.dates(2);
        List<Given.Named> wrongBesides = new ArrayList<>();
        for (int w : new int[] {-1, 1000}) {
            wrongBesides.add(new Given.Named("weight " + w, (o, date) -> o.weight(date, 0, w)));
            wrongBesides.add(new Given.Named("weight " + w + " and year", (o, date) -> o.weight(date, 12, w)));
        }
        for (int[] share : new int[][] {{-1, 1}, {2, 1}, {0, 0}, {0, 11}}) {
            wrongBesides.add(new Given.Named("outlier", (o, date) -> Given.outlier(o, date, share[0], share[1])));
            wrongBesides.add(new Given.Named("narrow", (o, date) -> o.narrow(date, share[0], share[1] * 1000)));
        }
        for (int[] row : new int[][] {{-1, 0}, {1, 0}, {0, 12}}) {
            wrongBesides.add(new Given.Named("row a", (o, date) -> o.row(date, 0, row[0], row[1])));
            wrongBesides.add(new Given.Named("row b", (o, date) -> o.row(0, date, row[0], row[1])));
        }
        range(x, wrongBesides, new int[0], new int[] {-1, 2, 6});
        for (int year : new int[] {-1, 12}) {
            EXPECT.noSuch("year, then the weight", () -> x.weight(0, year, 1000));
        }
    }

    private static void noSuchElementBeforeTheState() {
        OrderPassing x = Given.dates(1);
        EXPECT.noSuch("bound -1 without members", () -> x.bound(-1, 0, 0));
        EXPECT.noSuch("bound 2 without members", () -> x.bound(2, 0, 0));
        EXPECT.noSuch("year -1 without members", () -> x.bound(0, -1, 0));
        EXPECT.noSuch("year 12 without members", () -> x.bound(0, 12, 0));
        EXPECT.noSuch("digit -1 without members", () -> x.bound(0, 0, -1));
        EXPECT.noSuch("digit 48 without members", () -> x.bound(0, 0, 48));
        EXPECT.state("all right but for the members", () -> x.bound(0, 0, 0));
        EXPECT.state("the last of all", () -> x.bound(1, 11, 47));
    }
}
