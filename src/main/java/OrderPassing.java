import java.util.Arrays;
import java.util.NoSuchElementException;

/**
 * Dates under order: weights by years, rows between dates, a phase with two bounds, and exact sums
 * over all ways. Sums are passed along the trees of rows towards one date, the phase being one more
 * knot that joins the members, so that no call has to go through the ways one by one.
 */
public final class OrderPassing {
    public static final int NONE = -1;

    private static final int YEARS = 12;
    private static final int DATES = 6;
    private static final int DIGITS = 48;
    private static final int BOUNDS = 2;
    private static final int FIRST = 0;
    private static final int LAST = 1;
    private static final int GREATEST_WEIGHT = 999;
    private static final int GREATEST_BELOW = 10;
    private static final int GREATEST_PARTS = 1000;

    private final Dates dates;
    private final Telling told;
    private final Passing passing;
    private final Great whole;
    private final Great stretch;

    public OrderPassing() {
        dates = new Dates();
        told = new Telling();
        passing = new Passing();
        whole = new Great();
        stretch = new Great();
    }

    public int date() throws IllegalStateException {
        if (dates.number() >= DATES) {
            throw new IllegalStateException("there are six dates");
        }
        return dates.open();
    }

    public int weight(int date, int year, int w) throws NoSuchElementException, IllegalArgumentException {
        needDate(date);
        needYear(year);
        if (w < 0 || w > GREATEST_WEIGHT) {
            throw new IllegalArgumentException("the weight is not 0 .. 999");
        }
        return dates.changeWeight(date, year, w);
    }

    public void outlier(int date, int above, int below) throws NoSuchElementException, IllegalArgumentException {
        needDate(date);
        if (below < 1 || below > GREATEST_BELOW || above < 0 || above > below) {
            throw new IllegalArgumentException("the share is not 0 .. below of 1 .. 10");
        }
        dates.changeShare(date, above, below);
    }

    public int row(int a, int b, int least, int most) throws NoSuchElementException, IllegalArgumentException {
        needDate(a);
        needDate(b);
        if (least < 0 || least > most || most >= YEARS) {
            throw new IllegalArgumentException("not 0 <= least <= most <= 11");
        }
        if (!told.mayJoin(a, b)) {
            return NONE;
        }
        return told.tell(a, b, least, most);
    }

    public int member(int date) throws NoSuchElementException {
        needDate(date);
        if (told.treeHasMember(date)) {
            return NONE;
        }
        return told.tell(date, NONE, 0, 0);
    }

    public int total(int digit) throws NoSuchElementException {
        needDigit(digit);
        sumAll();
        return whole.digitAt(digit);
    }

    public int answered(int date, int year, int digit) throws NoSuchElementException {
        needDate(date);
        needYear(year);
        needDigit(digit);
        passing.passTo(date, dates, told);
        return passing.sumAt(date, year).digitAt(digit);
    }

    public int bound(int which, int year, int digit) throws NoSuchElementException, IllegalStateException {
        needBound(which);
        needYear(year);
        needDigit(digit);
        if (told.members() == 0) {
            throw new IllegalStateException("there are no members");
        }
        passing.fixBound(which, year);
        sumAll();
        return whole.digitAt(digit);
    }

    public int both(int a, int x, int b, int y, int digit) throws NoSuchElementException {
        needDate(a);
        needYear(x);
        needDate(b);
        needYear(y);
        needDigit(digit);
        passing.fixDate(a, x);
        passing.passTo(b, dates, told);
        return passing.sumAt(b, y).digitAt(digit);
    }

    public int span(int date, int which) throws NoSuchElementException {
        needDate(date);
        needBound(which);
        passing.passTo(date, dates, told);
        for (int i = 0; i < YEARS; i++) {
            int year = which == FIRST ? i : YEARS - 1 - i;
            if (!passing.sumAt(date, year).isZero()) {
                return year;
            }
        }
        return NONE;
    }

    public int narrow(int date, int above, int below) throws NoSuchElementException, IllegalArgumentException {
        needDate(date);
        if (above < 1 || above > below || below > GREATEST_PARTS) {
            throw new IllegalArgumentException("not 1 <= above <= below <= 1000");
        }
        passing.passTo(date, dates, told);
        passing.addYears(date, whole);
        if (whole.isZero()) {
            return NONE;
        }
        // part / whole >= above / below is asked as part * below >= whole * above, which is exact
        stretch.set(above);
        whole.multiply(stretch);
        stretch.set(below);
        passing.multiplyYears(date, stretch);
        return shortestStretch(date);
    }

    public boolean fits() {
        sumAll();
        return !whole.isZero();
    }

    public int fitless(int k) throws NoSuchElementException {
        if (k < 0) {
            throw new NoSuchElementException("k is below 0");
        }
        sumAll();
        if (!whole.isZero()) {
            return NONE;
        }
        for (int i = 0; i < told.number(); i++) {
            told.setInForce(i, false);
            sumAll();
            if (!whole.isZero()) {
                told.setInForce(i, true);
            }
        }
        int left = told.inForceAt(k);
        told.putAllBack();
        return left;
    }

    public int count(int what) throws NoSuchElementException {
        switch (what) {
            case 0:
                return dates.number();
            case 1:
                return told.number() - told.members();
            case 2:
                return told.members();
            default:
                throw new NoSuchElementException("there is no such count");
        }
    }

    private void needDate(int date) {
        if (date < 0 || date >= dates.number()) {
            throw new NoSuchElementException("there is no such date");
        }
    }

    private static void needYear(int year) {
        if (year < 0 || year >= YEARS) {
            throw new NoSuchElementException("there is no such year");
        }
    }

    private static void needBound(int which) {
        if (which < 0 || which >= BOUNDS) {
            throw new NoSuchElementException("there is no such bound");
        }
    }

    private static void needDigit(int digit) {
        if (digit < 0 || digit >= DIGITS) {
            throw new NoSuchElementException("there is no such digit");
        }
    }

    /** Sets whole to the sum of all ways; without dates there is one empty way, which counts 1. */
    private void sumAll() {
        if (dates.number() == 0) {
            whole.set(1);
            return;
        }
        passing.passTo(0, dates, told);
        passing.addYears(0, whole);
    }

    /** The shortest stretch of a date's years whose sums reach whole. */
    private int shortestStretch(int date) {
        int shortest = YEARS + 1;
        int answer = NONE;
        for (int first = 0; first < YEARS; first++) {
            int last = endOfStretch(date, first);
            int length = last - first + 1;
            // only a shorter one wins, so the first of equal ones stays
            if (last != NONE && length < shortest) {
                shortest = length;
                answer = 100 * first + last;
            }
        }
        return answer;
    }

    /** The least year up to which the sums from first on reach whole, or NONE. */
    private int endOfStretch(int date, int first) {
        stretch.set(0);
        for (int last = first; last < YEARS; last++) {
            stretch.add(passing.sumAt(date, last));
            if (stretch.isAtLeast(whole)) {
                return last;
            }
        }
        return NONE;
    }

    /** The dates' weights and shares. */
    private static final class Dates {
        private final int[][] weights = new int[DATES][YEARS];
        private final int[] above = new int[DATES];
        private final int[] below = new int[DATES];
        private int number = 0;

        int number() {
            return number;
        }

        int open() {
            if (number >= DATES) {
                return NONE;
            }
            below[number] = 1;
            number++;
            return number - 1;
        }

        int changeWeight(int date, int year, int w) {
            int before = weights[date][year];
            weights[date][year] = w;
            return before;
        }

        void changeShare(int date, int newAbove, int newBelow) {
            above[date] = newAbove;
            below[date] = newBelow;
        }

        /** What a year of a date counts for all shares but the outliers'. */
        int inlying(int date, int year) {
            return (below[date] - above[date]) * YEARS * weights[date][year];
        }

        /** What every year of a date counts for the outliers. */
        int outlying(int date) {
            int sum = 0;
            for (int year = 0; year < YEARS; year++) {
                sum += weights[date][year];
            }
            return above[date] * sum;
        }
    }

    /**
     * What is told, by numbers. Every row takes away a tree without a member, and so does every member;
     * so there is never more told than there are dates.
     */
    private static final class Telling {
        private final int[] from = new int[DATES];
        private final int[] to = new int[DATES];
        private final int[] least = new int[DATES];
        private final int[] most = new int[DATES];
        private final boolean[] inForce = new boolean[DATES];
        private final int[] trees = new int[DATES];
        private int number = 0;
        private int members = 0;

        int number() {
            return number;
        }

        int members() {
            return members;
        }

        /** Tells a row, or a member if b is NONE. */
        int tell(int a, int b, int newLeast, int newMost) {
            if (number >= DATES) {
                return NONE;
            }
            from[number] = a;
            to[number] = b;
            least[number] = newLeast;
            most[number] = newMost;
            inForce[number] = true;
            if (b == NONE) {
                members++;
            }
            number++;
            return number - 1;
        }

        boolean mayJoin(int a, int b) {
            nameTrees();
            return trees[a] != trees[b] && !(hasMember(trees[a]) && hasMember(trees[b]));
        }

        boolean treeHasMember(int date) {
            nameTrees();
            return hasMember(trees[date]);
        }

        /** Gives all dates of a tree the same name. */
        private void nameTrees() {
            for (int date = 0; date < DATES; date++) {
                trees[date] = date;
            }
            for (int i = 0; i < number; i++) {
                if (to[i] != NONE) {
                    renameTree(trees[from[i]], trees[to[i]]);
                }
            }
        }

        private void renameTree(int before, int after) {
            for (int date = 0; date < DATES; date++) {
                if (trees[date] == before) {
                    trees[date] = after;
                }
            }
        }

        private boolean hasMember(int tree) {
            for (int i = 0; i < number; i++) {
                if (to[i] == NONE && trees[from[i]] == tree) {
                    return true;
                }
            }
            return false;
        }

        void setInForce(int i, boolean is) {
            inForce[i] = is;
        }

        void putAllBack() {
            for (int i = 0; i < number; i++) {
                inForce[i] = true;
            }
        }

        /** The number of the k-th that is in force, or NONE. */
        int inForceAt(int k) {
            int before = 0;
            for (int i = 0; i < number; i++) {
                if (inForce[i]) {
                    if (before == k) {
                        return i;
                    }
                    before++;
                }
            }
            return NONE;
        }

        /** The date that i makes a member, or NONE if i is a row or not in force. */
        int memberOf(int i) {
            return inForce[i] && to[i] == NONE ? from[i] : NONE;
        }

        /** The date that row i joins to this one, or NONE if it does not touch it or is not in force. */
        int otherEnd(int i, int date) {
            if (!inForce[i] || to[i] == NONE) {
                return NONE;
            }
            if (from[i] == date) {
                return to[i];
            }
            return to[i] == date ? from[i] : NONE;
        }

        /** The least year that row i leaves to its other end, if this date has a year. */
        int leastAcross(int i, int date, int year) {
            return Math.max(0, from[i] == date ? year + least[i] : year - most[i]);
        }

        /** The greatest year that row i leaves to its other end, if this date has a year. */
        int mostAcross(int i, int date, int year) {
            return Math.min(YEARS - 1, from[i] == date ? year + most[i] : year - least[i]);
        }
    }

    /**
     * Passes sums along the rows in force, from the far ends to one date, and through the phase from
     * the members of other trees to the member of that date's tree.
     */
    private static final class Passing {
        private final Great[] sums = new Great[DATES * YEARS];
        private final Great[] inside = new Great[DATES];
        private final Great[] throughPhase = new Great[YEARS];
        private final Great part = new Great();
        private final Great allPairs = new Great();
        private final Great factor = new Great();
        private final int[] fixedYear = new int[DATES];
        private final int[] fixedBound = new int[BOUNDS];
        private final int[] order = new int[DATES];
        private final int[] parent = new int[DATES];
        private final int[] rowToParent = new int[DATES];
        private final boolean[] seen = new boolean[DATES];
        private final boolean[] isMember = new boolean[DATES];
        private int queued = 0;
        private int home = 0;

        Passing() {
            for (int i = 0; i < DATES * YEARS; i++) {
                sums[i] = new Great();
            }
            for (int date = 0; date < DATES; date++) {
                inside[date] = new Great();
            }
            for (int year = 0; year < YEARS; year++) {
                throughPhase[year] = new Great();
            }
            Arrays.fill(fixedYear, NONE);
            Arrays.fill(fixedBound, NONE);
        }

        /** For the next pass alone: only ways in which a date has this year. */
        void fixDate(int date, int year) {
            fixedYear[date] = year;
        }

        /** For the next pass alone: only ways in which a bound has this year. */
        void fixBound(int which, int year) {
            fixedBound[which] = year;
        }

        Great sumAt(int date, int year) {
            return sums[date * YEARS + year];
        }

        void addYears(int date, Great into) {
            into.set(0);
            for (int year = 0; year < YEARS; year++) {
                into.add(sumAt(date, year));
            }
        }

        void multiplyYears(int date, Great by) {
            for (int year = 0; year < YEARS; year++) {
                sumAt(date, year).multiply(by);
            }
        }

        /** Sets the sums at a date's years to those of all ways in which the date has the year. */
        void passTo(int root, Dates dates, Telling told) {
            startSums(dates);
            orderDates(root, dates.number(), told);
            factor.set(1);
            for (int i = queued - 1; i >= home; i--) {
                handOn(order[i], told);
            }
            passPhase();
            for (int i = home - 1; i >= 1; i--) {
                handOn(order[i], told);
            }
            multiplyYears(root, factor);
            Arrays.fill(fixedYear, NONE);
            Arrays.fill(fixedBound, NONE);
        }

        private void startSums(Dates dates) {
            for (int date = 0; date < dates.number(); date++) {
                int outlying = dates.outlying(date);
                for (int year = 0; year < YEARS; year++) {
                    boolean open = fixedYear[date] == NONE || fixedYear[date] == year;
                    sumAt(date, year).set(open ? dates.inlying(date, year) + outlying : 0);
                }
            }
        }

        /**
         * Orders all dates so that parents stand before their children: the root's tree first, then
         * the other trees from their members, then those without a member.
         */
        private void orderDates(int root, int number, Telling told) {
            queued = 0;
            for (int date = 0; date < DATES; date++) {
                seen[date] = false;
                isMember[date] = false;
            }
            queueTree(root, told);
            home = queued;
            for (int i = 0; i < told.number(); i++) {
                int member = told.memberOf(i);
                if (member != NONE) {
                    isMember[member] = true;
                    queueTree(member, told);
                }
            }
            for (int date = 0; date < number; date++) {
                queueTree(date, told);
            }
        }

        private void queueTree(int start, Telling told) {
            int begin = queued;
            queueDate(start, NONE, NONE);
            for (int i = begin; i < queued && i < DATES; i++) {
                queueChildren(order[i], told);
            }
        }

        private void queueChildren(int date, Telling told) {
            for (int i = 0; i < told.number(); i++) {
                int other = told.otherEnd(i, date);
                if (other != NONE) {
                    queueDate(other, date, i);
                }
            }
        }

        private void queueDate(int date, int from, int along) {
            if (seen[date] || queued >= DATES) {
                return;
            }
            seen[date] = true;
            parent[date] = from;
            rowToParent[date] = along;
            order[queued] = date;
            queued++;
        }

        /** Hands a date's sums to its parent; a tree with neither root nor member is a mere factor. */
        private void handOn(int date, Telling told) {
            if (parent[date] != NONE) {
                handToParent(date, parent[date], rowToParent[date], told);
            } else if (!isMember[date]) {
                addYears(date, part);
                factor.multiply(part);
            }
        }

        private void handToParent(int date, int to, int along, Telling told) {
            for (int year = 0; year < YEARS; year++) {
                int high = told.mostAcross(along, to, year);
                part.set(0);
                for (int low = told.leastAcross(along, to, year); low <= high; low++) {
                    part.add(sumAt(date, low));
                }
                sumAt(to, year).multiply(part);
            }
        }

        /** Hands the sums of the other trees' members through the phase to the root's tree. */
        private void passPhase() {
            boolean anyMember = false;
            int memberAtHome = NONE;
            for (int i = 0; i < queued; i++) {
                if (isMember[order[i]]) {
                    anyMember = true;
                    memberAtHome = i < home ? order[i] : memberAtHome;
                }
            }
            if (!anyMember) {
                return;
            }
            sumOverBounds();
            if (memberAtHome == NONE) {
                factor.multiply(allPairs);
                return;
            }
            for (int year = 0; year < YEARS; year++) {
                sumAt(memberAtHome, year).multiply(throughPhase[year]);
            }
        }

        /** Sums over the bounds: all pairs of them, and those between which a year lies. */
        private void sumOverBounds() {
            allPairs.set(0);
            for (int year = 0; year < YEARS; year++) {
                throughPhase[year].set(0);
            }
            for (int first = 0; first < YEARS; first++) {
                if (fixedBound[FIRST] != NONE && fixedBound[FIRST] != first) {
                    continue;
                }
                for (int date = 0; date < DATES; date++) {
                    inside[date].set(0);
                }
                for (int last = first; last < YEARS; last++) {
                    multiplyInside(last);
                    if (fixedBound[LAST] == NONE || fixedBound[LAST] == last) {
                        addPair(first, last);
                    }
                }
            }
        }

        private void addPair(int first, int last) {
            allPairs.add(part);
            for (int year = first; year <= last; year++) {
                throughPhase[year].add(part);
            }
        }

        /** Widens what lies inside the bounds to one more year, and sets part to the product. */
        private void multiplyInside(int last) {
            part.set(1);
            for (int i = home; i < queued; i++) {
                int date = order[i];
                if (isMember[date]) {
                    inside[date].add(sumAt(date, last));
                    part.multiply(inside[date]);
                }
            }
        }
    }

    /**
     * A natural number below 10^48. The greatest that can come up: six dates that each count at most
     * 12 * 10 * 12 * 999 in all, 78 pairs of bounds, and 1000 parts in narrow, together below 10^42.
     */
    private static final class Great {
        private static final int LIMBS = 6;
        private static final int LIMB_DIGITS = 8;
        private static final long BASE = 100_000_000L;

        private final long[] limbs = new long[LIMBS];
        // how many limbs are in use; all others are 0, and most sums are short
        private int size = 0;

        boolean isZero() {
            return size == 0;
        }

        /** Sets it to a number of one limb. */
        void set(int small) {
            for (int i = 0; i < size; i++) {
                limbs[i] = 0;
            }
            limbs[0] = small;
            size = small == 0 ? 0 : 1;
        }

        void add(Great other) {
            long carry = 0;
            int used = size > other.size ? size : other.size;
            int i = 0;
            for (; i < LIMBS && (i < used || carry > 0); i++) {
                long sum = limbs[i] + other.limbs[i] + carry;
                carry = sum >= BASE ? 1 : 0;
                limbs[i] = sum - carry * BASE;
            }
            size = i;
        }

        /** Multiplies it by another number, which must not be itself. */
        void multiply(Great other) {
            int used = size + other.size < LIMBS ? size + other.size : LIMBS;
            // from the highest limb down, so that each is read before products fall on it
            for (int i = size - 1; i >= 0; i--) {
                long limb = limbs[i];
                long carry = 0;
                limbs[i] = 0;
                for (int j = 0; i + j < LIMBS && (j < other.size || carry > 0); j++) {
                    long sum = limbs[i + j] + limb * other.limbs[j] + carry;
                    carry = sum / BASE;
                    limbs[i + j] = sum - carry * BASE;
                }
            }
            while (used > 0 && limbs[used - 1] == 0) {
                used--;
            }
            size = used;
        }

        boolean isAtLeast(Great other) {
            for (int i = LIMBS - 1; i >= 0; i--) {
                if (limbs[i] != other.limbs[i]) {
                    return limbs[i] > other.limbs[i];
                }
            }
            return true;
        }

        int digitAt(int digit) {
            if (digit < 0 || digit >= LIMBS * LIMB_DIGITS) {
                return 0;
            }
            long limb = limbs[digit / LIMB_DIGITS];
            for (int i = digit % LIMB_DIGITS; i > 0; i--) {
                limb /= 10;
            }
            return (int) (limb % 10);
        }
    }
}
