import java.math.BigInteger;

/** Objects to start from, and what is asked of them, for all tests by hand. */
final class Given {
    /** A call that answers with one digit of a sum. */
    interface Digit {
        int at(int digit);
    }

    /** A call with one argument that goes through values while the others stay. */
    interface Asked {
        Object with(OrderPassing x, int value);
    }

    /** A call and its text. */
    record Named(String name, Asked asked) {
    }

    private Given() {
    }

    static OrderPassing dates(int number) {
        OrderPassing x = new OrderPassing();
        for (int i = 0; i < number; i++) {
            x.date();
        }
        return x;
    }

    /** Dates with the same weight for every year. */
    static OrderPassing evenDates(int number, int w) {
        OrderPassing x = dates(number);
        for (int date = 0; date < number; date++) {
            weighEvenly(x, date, w);
        }
        return x;
    }

    static void weighEvenly(OrderPassing x, int date, int w) {
        for (int year = 0; year < 12; year++) {
            x.weight(date, year, w);
        }
    }

    /** A date for each year given, with the weight 1 in that year alone: each counts 12 there. */
    static OrderPassing datesIn(int... years) {
        OrderPassing x = dates(years.length);
        for (int date = 0; date < years.length; date++) {
            x.weight(date, years[date], 1);
        }
        return x;
    }

    /** All 48 digits of a sum. */
    static BigInteger sum(Digit digit) {
        BigInteger sum = BigInteger.ZERO;
        for (int i = 47; i >= 0; i--) {
            sum = sum.multiply(BigInteger.TEN).add(BigInteger.valueOf(digit.at(i)));
        }
        return sum;
    }

    /** The last digits of a sum that is known to be short, to stay within an object's 512 calls. */
    static long lastDigits(int digits, Digit digit) {
        long sum = 0;
        for (int i = digits - 1; i >= 0; i--) {
            sum = sum * 10 + digit.at(i);
        }
        return sum;
    }

    /** As an answer, so that it can stand where an answer is wanted. */
    static Object outlier(OrderPassing x, int date, int above, int below) {
        x.outlier(date, above, below);
        return "nothing";
    }
}
