import java.util.Random;

/** Long runs of calls, drawn from fixed seeds, against the model that goes through all ways. */
public final class ModelRunsTest {
    private static final Expect EXPECT = new Expect("ModelRunsTest");
    private static final int CALLS = 512;

    private final Random random;
    private final int mostDates;
    private final long mostCost;
    private final OrderPassing mine = new OrderPassing();
    private final Model model = new Model();
    private final String run;
    private int made = 0;

    private ModelRunsTest(int seed, int mostDates, long mostCost) {
        this.random = new Random(seed);
        this.mostDates = mostDates;
        this.mostCost = mostCost;
        this.run = "seed " + seed + ": ";
    }

    public static void main(String[] args) {
        for (int seed = 0; seed < 120; seed++) {
            new ModelRunsTest(seed, 1 + seed % 7, 150).go();
        }
        for (int seed = 1000; seed < 1006; seed++) {
            new ModelRunsTest(seed, 6, 2000).go();
        }
        EXPECT.finish();
    }

    private void go() {
        int change = 30 + random.nextInt(40);
        // one step makes up to two calls, and no more than 512 are promised anything
        for (int i = 0; made <= CALLS - 2; i++) {
            boolean early = i < 40 || random.nextInt(100) < change / 3;
            if (early) {
                change();
            } else {
                ask();
            }
        }
    }

    /** Mostly one of 0 .. size - 1, now and then one just outside or far away. */
    private int near(int size) {
        int kind = random.nextInt(60);
        if (kind == 0) {
            return size + random.nextInt(2);
        }
        if (kind == 1) {
            return random.nextBoolean() ? -1 : random.nextInt();
        }
        return size > 0 ? random.nextInt(size) : 0;
    }

    private int date() {
        return near(model.count(0));
    }

    private int digit() {
        // low digits say most: the high ones of small sums are all 0
        return random.nextInt(3) == 0 ? near(48) : near(12);
    }

    private int amount() {
        return random.nextInt(3) == 0 ? 999 - random.nextInt(3) : near(1000);
    }

    private void check(String call, Expect.Call got, Expect.Call due) {
        made++;
        EXPECT.same(run + call, Expect.outcome(got), Expect.outcome(due));
    }

    private void change() {
        switch (random.nextInt(8)) {
            case 0:
                if (model.count(0) < mostDates) {
                    check("date()", mine::date, model::date);
                }
                break;
            case 1:
                share(date(), near(6), near(11));
                break;
            case 2:
                join(date(), date(), near(12), near(12));
                break;
            case 3:
                int date = date();
                check("member(" + date + ")", () -> mine.member(date), () -> model.member(date));
                break;
            default:
                weigh(date(), near(12), random.nextInt(4) == 0 ? 0 : amount());
                break;
        }
    }

    private void weigh(int date, int year, int w) {
        check("weight(" + date + ", " + year + ", " + w + ")",
            () -> mine.weight(date, year, w), () -> model.weight(date, year, w));
        if (model.cost() > mostCost) {
            check("weight(" + date + ", " + year + ", 0)",
                () -> mine.weight(date, year, 0), () -> model.weight(date, year, 0));
        }
    }

    private void share(int date, int above, int below) {
        shareOf(date, above, below);
        if (model.cost() > mostCost) {
            shareOf(date, 0, below);
        }
    }

    private void shareOf(int date, int above, int below) {
        check("outlier(" + date + ", " + above + ", " + below + ")", () -> {
            mine.outlier(date, above, below);
            return "nothing";
        }, () -> {
            model.outlier(date, above, below);
            return "nothing";
        });
    }

    private void join(int a, int b, int x, int y) {
        boolean turned = x > y && random.nextInt(10) > 0;
        int least = turned ? y : x;
        int most = turned ? x : y;
        check("row(" + a + ", " + b + ", " + least + ", " + most + ")",
            () -> mine.row(a, b, least, most), () -> model.row(a, b, least, most));
    }

    private void ask() {
        int a = date();
        int b = date();
        int x = near(12);
        int y = near(12);
        int digit = digit();
        int which = near(2);
        switch (random.nextInt(9)) {
            case 0:
                check("total(" + digit + ")", () -> mine.total(digit), () -> model.total(digit));
                break;
            case 1:
                check("answered(" + a + ", " + x + ", " + digit + ")",
                    () -> mine.answered(a, x, digit), () -> model.answered(a, x, digit));
                break;
            case 2:
                check("bound(" + which + ", " + x + ", " + digit + ")",
                    () -> mine.bound(which, x, digit), () -> model.bound(which, x, digit));
                break;
            case 3:
                check("both(" + a + ", " + x + ", " + b + ", " + y + ", " + digit + ")",
                    () -> mine.both(a, x, b, y, digit), () -> model.both(a, x, b, y, digit));
                break;
            case 4:
                check("span(" + a + ", " + which + ")", () -> mine.span(a, which), () -> model.span(a, which));
                break;
            case 5:
                askNarrow(a);
                break;
            case 6:
                check("fits()", mine::fits, model::fits);
                break;
            case 7:
                int k = near(4);
                check("fitless(" + k + ")", () -> mine.fitless(k), () -> model.fitless(k));
                break;
            default:
                int what = near(3);
                check("count(" + what + ")", () -> mine.count(what), () -> model.count(what));
                break;
        }
    }

    private void askNarrow(int date) {
        int below = random.nextBoolean() ? near(1001) : near(10);
        int above = below > 0 && random.nextInt(8) > 0 ? 1 + random.nextInt(below) : near(10);
        check("narrow(" + date + ", " + above + ", " + below + ")",
            () -> mine.narrow(date, above, below), () -> model.narrow(date, above, below));
    }
}
