import java.math.BigInteger;
import java.util.ArrayList;
import java.util.List;
import java.util.NoSuchElementException;

/** The document word by word: it goes through all ways one by one, the bounds too. */
final class Model {
    private static final int YEARS = 12;

    private record Told(int a, int b, int least, int most) {
        boolean isMember() {
            return b < 0;
        }
    }

    private interface Asked {
        boolean way(int[] years, int first, int last);
    }

    private final List<int[]> weights = new ArrayList<>();
    private final List<int[]> shares = new ArrayList<>();
    private final List<Told> told = new ArrayList<>();

    int date() {
        if (weights.size() == 6) {
            throw new IllegalStateException();
        }
        weights.add(new int[YEARS]);
        shares.add(new int[] {0, 1});
        return weights.size() - 1;
    }

    int weight(int date, int year, int w) {
        need(date, weights.size());
        need(year, YEARS);
        allow(0 <= w && w <= 999);
        int before = weights.get(date)[year];
        weights.get(date)[year] = w;
        return before;
    }

    void outlier(int date, int above, int below) {
        need(date, weights.size());
        allow(1 <= below && below <= 10 && 0 <= above && above <= below);
        shares.set(date, new int[] {above, below});
    }

    int row(int a, int b, int least, int most) {
        need(a, weights.size());
        need(b, weights.size());
        allow(0 <= least && least <= most && most <= 11);
        if (joined(a, b) || hasMember(a) && hasMember(b)) {
            return -1;
        }
        told.add(new Told(a, b, least, most));
        return told.size() - 1;
    }

    int member(int date) {
        need(date, weights.size());
        if (hasMember(date)) {
            return -1;
        }
        told.add(new Told(date, -1, 0, 0));
        return told.size() - 1;
    }

    int total(int digit) {
        need(digit, 48);
        return digit(all(), digit);
    }

    int answered(int date, int year, int digit) {
        need(date, weights.size());
        need(year, YEARS);
        need(digit, 48);
        return digit(sum(told, (years, first, last) -> years[date] == year), digit);
    }

    int bound(int which, int year, int digit) {
        need(which, 2);
        need(year, YEARS);
        need(digit, 48);
        if (members(told) == 0) {
            throw new IllegalStateException();
        }
        return digit(sum(told, (years, first, last) -> (which == 0 ? first : last) == year), digit);
    }

    int both(int a, int x, int b, int y, int digit) {
        need(a, weights.size());
        need(x, YEARS);
        need(b, weights.size());
        need(y, YEARS);
        need(digit, 48);
        return digit(sum(told, (years, first, last) -> years[a] == x && years[b] == y), digit);
    }

    int span(int date, int which) {
        need(date, weights.size());
        need(which, 2);
        int found = -1;
        for (int year = 0; year < YEARS; year++) {
            int asked = year;
            if (sum(told, (years, first, last) -> years[date] == asked).signum() > 0) {
                if (which == 0) {
                    return year;
                }
                found = year;
            }
        }
        return found;
    }

    int narrow(int date, int above, int below) {
        need(date, weights.size());
        allow(1 <= above && above <= below && below <= 1000);
        BigInteger all = all();
        if (all.signum() == 0) {
            return -1;
        }
        for (int length = 1; length <= YEARS; length++) {
            for (int from = 0; from + length <= YEARS; from++) {
                int least = from;
                int most = from + length - 1;
                BigInteger part = sum(told, (years, first, last) -> least <= years[date] && years[date] <= most);
                if (part.multiply(BigInteger.valueOf(below)).compareTo(all.multiply(BigInteger.valueOf(above))) >= 0) {
                    return 100 * least + most;
                }
            }
        }
        throw new AssertionError("all years are all ways");
    }

    boolean fits() {
        return all().signum() > 0;
    }

    int fitless(int k) {
        allowIndex(k >= 0);
        if (fits()) {
            return -1;
        }
        List<Told> left = new ArrayList<>(told);
        for (Told one : told) {
            List<Told> less = new ArrayList<>(left);
            less.remove(one);
            if (sum(less, (years, first, last) -> true).signum() == 0) {
                left = less;
            }
        }
        return k < left.size() ? told.indexOf(left.get(k)) : -1;
    }

    int count(int what) {
        need(what, 3);
        return what == 0 ? weights.size() : what == 1 ? told.size() - members(told) : members(told);
    }

    /** How many ways of the dates count above 0 if no row is told: what going through them costs. */
    long cost() {
        long ways = 1;
        for (int date = 0; date < weights.size(); date++) {
            int open = 0;
            for (int year = 0; year < YEARS; year++) {
                open += counts(date, year) > 0 ? 1 : 0;
            }
            ways *= Math.max(open, 1);
        }
        return ways;
    }

    private static void need(int index, int size) {
        allowIndex(0 <= index && index < size);
    }

    private static void allowIndex(boolean is) {
        if (!is) {
            throw new NoSuchElementException();
        }
    }

    private static void allow(boolean is) {
        if (!is) {
            throw new IllegalArgumentException();
        }
    }

    private static int digit(BigInteger sum, int digit) {
        return sum.divide(BigInteger.TEN.pow(digit)).mod(BigInteger.TEN).intValue();
    }

    private static int members(List<Told> those) {
        int members = 0;
        for (Told one : those) {
            members += one.isMember() ? 1 : 0;
        }
        return members;
    }

    private boolean joined(int a, int b) {
        return reach(a)[b];
    }

    private boolean hasMember(int date) {
        boolean[] tree = reach(date);
        for (Told one : told) {
            if (one.isMember() && tree[one.a]) {
                return true;
            }
        }
        return false;
    }

    private boolean[] reach(int date) {
        boolean[] reached = new boolean[6];
        reached[date] = true;
        for (int round = 0; round < 6; round++) {
            for (Told one : told) {
                if (!one.isMember() && (reached[one.a] || reached[one.b])) {
                    reached[one.a] = true;
                    reached[one.b] = true;
                }
            }
        }
        return reached;
    }

    private long counts(int date, int year) {
        int sum = 0;
        for (int w : weights.get(date)) {
            sum += w;
        }
        int[] share = shares.get(date);
        return (long) (share[1] - share[0]) * 12 * weights.get(date)[year] + (long) share[0] * sum;
    }

    private BigInteger all() {
        return sum(told, (years, first, last) -> true);
    }

    private BigInteger sum(List<Told> those, Asked asked) {
        return sumFrom(0, new int[weights.size()], those, asked);
    }

    private BigInteger sumFrom(int date, int[] years, List<Told> those, Asked asked) {
        if (date == weights.size()) {
            return rowsHold(years, those) ? BigInteger.valueOf(pairs(years, those, asked)) : BigInteger.ZERO;
        }
        BigInteger sum = BigInteger.ZERO;
        for (int year = 0; year < YEARS; year++) {
            long counts = counts(date, year);
            if (counts > 0) {
                years[date] = year;
                sum = sum.add(sumFrom(date + 1, years, those, asked).multiply(BigInteger.valueOf(counts)));
            }
        }
        return sum;
    }

    private static boolean rowsHold(int[] years, List<Told> those) {
        for (Told one : those) {
            if (!one.isMember()) {
                int far = years[one.b] - years[one.a];
                if (far < one.least || far > one.most) {
                    return false;
                }
            }
        }
        return true;
    }

    private static int pairs(int[] years, List<Told> those, Asked asked) {
        if (members(those) == 0) {
            return asked.way(years, -1, -1) ? 1 : 0;
        }
        int pairs = 0;
        for (int first = 0; first < YEARS; first++) {
            for (int last = 0; last < YEARS; last++) {
                if (holds(years, first, last, those) && asked.way(years, first, last)) {
                    pairs++;
                }
            }
        }
        return pairs;
    }

    private static boolean holds(int[] years, int first, int last, List<Told> those) {
        for (Told one : those) {
            if (one.isMember() && (years[one.a] < first || years[one.a] > last)) {
                return false;
            }
        }
        return true;
    }
}
