/** Edges of promises 27 to 38: GAIN, SHARES, what befalls THINGS and HOUSES, and YEARS by their SEEDS. */
public final class EdgesOfYearsTest extends Edges {
    private static final int MIN = Integer.MIN_VALUE;
    private static final int MAX = Integer.MAX_VALUE;
    private static final String NO_SUCH = "NoSuchElementException: no such HOUSE, THING, TIDE, FIND (so below, ahead of "
            + "others).";
    private static final String NO_HOUSES = "IllegalArgumentException: bits of no HOUSES (so below).";
    private static final String YEAR = "A YEAR of so many TIDES (1 to 96), Q (0 to 16), K (0 to 20): 0 WORTH of all that are "
            + "not GONE then, 1 what is paid in it, 2 GONE then, 3 winds.";
    private static final String SPAN = "Of so many SEEDS (1 to 20; seed, seed and 1, ..): 0 the fewest GONE then, 1 the most, "
            + "2 by how many a THING is not GONE then.";

    private EdgesOfYearsTest() { }

    public static void main(String[] args) {
        watch();
        gain();
        share();
        soaked();
        snaps();
        fullest();
        pays();
        neap();
        loads();
        dearest();
        dry();
        yearOfTides();
        winds();
        drawing();
        span();
        end("EdgesOfYearsTest", 27, 38);
    }

    // ---- promises 27 and 28
    private static int[] gains(TideLodger x, int house, int n) {
        return of(x.gain(house, n, 0), x.gain(house, n, 1));
    }

    private static void gain() {
        String range = "GAIN of a HOUSE by n: the mean WORTH left there in the next n TIDES.";
        edge(27, range, () -> {
            TideLodger x = in(LATE + "find 3 1;");
            row("by 0", of(0, 1), gains(x, 0, 0));
            row("by 11", of(0, 1), gains(x, 0, 11));
            row("by 12", of(3, 16), gains(x, 0, 12));
            row("by 59", of(3, 4), gains(x, 1, 59));
            row("by 60", of(15, 16), gains(x, 1, 60));
        });
        String terms = "(n 0 to 60): above (part 0), below (part 1), in least terms.";
        edge(27, terms, () -> {
            TideLodger x = in("house 0;tide 1;find 1 1;");
            int[][] want = {{0, 1}, {1, 16}, {1, 8}, {3, 16}, {1, 4}, {5, 16}, {3, 8}, {7, 16}, {1, 2}, {9, 16}, {5, 8},
                {11, 16}, {3, 4}, {13, 16}, {7, 8}, {15, 16}, {1, 1}, {17, 16}, {9, 8}};
            for (int n = 0; n < want.length; n++) {
                row("by " + n, want[n], gains(x, 0, n));
            }
            row("by 32", of(2, 1), gains(x, 0, 32));
            row("by 60", of(15, 4), gains(x, 0, 60));
        });
        edge(27, terms, () -> {
            TideLodger x = in("house 0;house 9;tide 9;" + "find 40 16;".repeat(6));
            row("the most", of(14400, 1), gains(x, 0, 60));
            row("nothing where no TIDE is", of(0, 1), gains(x, 1, 60));
            row("nothing by Q 0", of(0, 1), gains(in("house 0;tide 9;find 40 0;"), 0, 60));
            row("nothing without FINDS", of(0, 1), gains(in("house 0;tide 9;"), 0, 60));
        });
        edge(27, "FINDS: each TIDE that is in a HOUSE leaves there each FIND by its Q", () -> {
            TideLodger x = in("house 0;house 1;tide 1;tide 2;find 4 8;find 1 16;find 3 1;");
            row("by one", of(51, 16), gains(x, 0, 1));
            row("by two", of(51, 8), gains(x, 0, 2));
            row("by the one of two that is in it", of(51, 16), gains(x, 1, 2));
            row("by none", of(0, 1), gains(x, 1, 1));
            due(1, "work", work(x, "bag 1;"));
            row("above a bag", of(0, 1), gains(x, 1, 60));
        });
        missingAsks(27, NO_SUCH, x -> x.gain(3, 0, 0), x -> x.gain(-1, 0, 0), x -> x.gain(3, 61, 2),
                x -> x.gain(MIN, MIN, MIN), x -> x.gain(MAX, MAX, MAX));
        illegalAsks(27, terms, x -> x.gain(0, -1, 0), x -> x.gain(0, 61, 0), x -> x.gain(0, 0, -1), x -> x.gain(0, 0, 2),
                x -> x.gain(0, MIN, 0), x -> x.gain(0, MAX, 0), x -> x.gain(0, 0, MIN), x -> x.gain(0, 0, MAX));
    }

    private static int[] shares(TideLodger x, int houses, int n) {
        return of(x.share(0, houses, n), x.share(1, houses, n), x.share(2, houses, n));
    }

    private static void share() {
        String levelled = "levelled: no more than a bound each, the greatest by which no more than n are given (all, if they "
                + "are no more).";
        // They were paid 10, 20 and 30.
        edge(28, levelled, () -> {
            TideLodger x = in("house 0;house 0;house 0;tide 1;");
            due(1, "law", law(x, "house * 10 + 10"));
            row("nothing is paid", of(0, 0, 0), shares(x, 7, 999));
            tides(x, 1);
            row("999", of(10, 20, 30), shares(x, 7, 999));
            row("60", of(10, 20, 30), shares(x, 7, 60));
            row("59", of(10, 20, 29), shares(x, 7, 59));
            row("51", of(10, 20, 21), shares(x, 7, 51));
            row("50", of(10, 20, 20), shares(x, 7, 50));
            row("49, one is left", of(10, 19, 19), shares(x, 7, 49));
            row("30", of(10, 10, 10), shares(x, 7, 30));
            row("29, two are left", of(9, 9, 9), shares(x, 7, 29));
            row("3", of(1, 1, 1), shares(x, 7, 3));
            row("2, less than one each", of(0, 0, 0), shares(x, 7, 2));
            row("0", of(0, 0, 0), shares(x, 7, 0));
        });
        edge(28, "What a HOUSE gets of n (0 to 999) by SHARES among told HOUSES (0, if it is none of them).", () -> {
            TideLodger x = in("house 0;house 0;house 0;tide 1;");
            due(1, "law", law(x, "house * 10 + 10"));
            tides(x, 1);
            row("among the outer two", of(10, 0, 29), shares(x, 5, 39));
            row("among the first", of(9, 0, 0), shares(x, 1, 9));
            row("among the last", of(0, 0, 30), shares(x, 4, 30));
            row("among none", of(0, 0, 0), shares(x, 0, 999));
            row("nothing is taken from them", of(10, 20, 30), x.house(0, 4), x.house(1, 4), x.house(2, 4));
        });
        edge(28, levelled, () -> {
            TideLodger x = in("house 0;house 0;tide 1;");
            due(1, "law", law(x, "99 - house * 89"));
            tides(x, 20);
            // They were paid 1,980 and 200.
            row("999", of(799, 200, 999, 200), x.share(0, 3, 999), x.share(1, 3, 999), x.share(0, 1, 999), x.share(1, 2, 999));
            row("400, 401", of(200, 200, 201), x.share(0, 3, 400), x.share(1, 3, 400), x.share(0, 3, 401));
        });
        missingAsks(28, NO_SUCH, x -> x.share(3, 0, 0), x -> x.share(-1, 0, 0), x -> x.share(3, 8, -1),
                x -> x.share(MIN, MIN, MIN), x -> x.share(MAX, MAX, MAX));
        illegalAsks(28, NO_HOUSES, x -> x.share(0, 8, 0), x -> x.share(0, -1, 0), x -> x.share(0, 9, 0),
                x -> x.share(0, MIN, 0), x -> x.share(0, MAX, 0));
        illegalAsks(28, "What a HOUSE gets of n (0 to 999)", x -> x.share(0, 1, -1), x -> x.share(0, 1, 1000),
                x -> x.share(0, 0, -1), x -> x.share(1, 1, 1000), x -> x.share(0, 1, MIN), x -> x.share(0, 1, MAX));
    }

    // ---- promises 29 and 30
    private static void soaked() {
        String soaked = "How often a THING gets wet in the next n TIDES (0 to 60), all else as it is.";
        edge(29, soaked, () -> {
            TideLodger x = in("house 0;house 0;thing 0 1 9 9;thing 0 1 20 0;" + "tide 0;".repeat(11) + "tide 9;");
            row("one that floats on", of(0, 0, 1, 1, 2, 2), x.soaked(0, 0), x.soaked(0, 11), x.soaked(0, 12),
                    x.soaked(0, 23), x.soaked(0, 24), x.soaked(0, 60));
            row("one that stays", of(0, 1, 4, 5), x.soaked(1, 11), x.soaked(1, 12), x.soaked(1, 59), x.soaked(1, 60));
            due(2, "work", work(x, "tie 0;lift 1;"));
            row("tied until its rope breaks, up", of(3, 5, 0), x.soaked(0, 36), x.soaked(0, 60), x.soaked(1, 60));
        });
        edge(29, soaked, () -> {
            TideLodger x = in("house 0;thing 0 1 1 9;thing 0 1 1 9;tide 1;");
            row("60", of(1, 1), x.soaked(0, 60), x.soaked(0, 1));
            tides(x, 1);
            due(0, "GONE", x.soaked(1, 60));
            due(60, "by each", in("house 0;thing 0 1 20 9;tide 1;").soaked(0, 60));
            due(0, "by none", in("house 1;thing 0 1 20 9;tide 1;").soaked(0, 60));
        });
        missingAsks(29, NO_SUCH, x -> x.soaked(4, 0), x -> x.soaked(-1, 0), x -> x.soaked(4, 61), x -> x.soaked(MIN, MIN),
                x -> x.soaked(MAX, MAX));
        illegalAsks(29, soaked, x -> x.soaked(0, -1), x -> x.soaked(3, 61), x -> x.soaked(0, MIN), x -> x.soaked(0, MAX));
    }

    private static void snaps() {
        String snaps = "By which of the next 60 TIDES (0: the next) the rope of a THING breaks; NONE: by none, it is not tied.";
        edge(30, snaps, () -> {
            TideLodger x = in(LATE + "rope 5;");
            due(-1, "not tied", x.snaps(0));
            due(1, "work", work(x, "tie 0;"));
            due(59, "by the last of 60", x.snaps(0));
            tides(x, 12);
            due(47, "twelve on", x.snaps(0));
        });
        edge(30, snaps, () -> {
            TideLodger x = in(LATE + "rope 6;");
            due(1, "work", work(x, "tie 0;"));
            due(-1, "by none of 60", x.snaps(0));
            tides(x, 11);
            due(-1, "by the 61st", x.snaps(0));
            tides(x, 1);
            due(59, "by the 60th", x.snaps(0));
        });
        edge(30, snaps, () -> {
            TideLodger x = in("house 0;thing 0 1 1 9;thing 0 1 20 9;thing 0 1 1 9;tide 1;rope 1;");
            due(3, "work", work(x, "tie 0;tie 1;lift 2;"));
            row("the next, none, up", of(0, -1, -1), x.snaps(0), x.snaps(1), x.snaps(2));
            due(1, "work", work(x, "tide;"));
            row("broken", of(-1, 0), x.snaps(0), x.thing(0, 5));
            tides(x, 1);
            row("GONE", of(-1, -1), x.snaps(0), x.thing(0, 3));
        });
        missingAsks(30, NO_SUCH, x -> x.snaps(4), x -> x.snaps(-1), x -> x.snaps(MIN), x -> x.snaps(MAX));
    }

    // ---- promises 31 to 36
    private static void fullest() {
        String fullest = "The HOUSE with most THINGS (up and down; what 0), of alike ones the first, how many (1); NONE both: "
                + "none has any.";
        edge(31, fullest, () -> {
            TideLodger x = in("house 0;house 0;house 0;thing 1 1 1 9;thing 2 1 20 9;thing 1 1 20 9;thing 2 1 20 9;tide 1;");
            row("of alike ones the first", of(1, 2), x.fullest(0), x.fullest(1));
            due(2, "work", work(x, "lift 0;lift 2;"));
            row("up and down", of(1, 2), x.fullest(0), x.fullest(1));
            due(2, "work", work(x, "lower 0;tide;"));
            row("one afloat", of(2, 3), x.fullest(0), x.fullest(1));
        });
        edge(31, fullest, () -> {
            TideLodger x = in("house 0;thing 0 1 1 9;tide 1;");
            row("one", of(0, 1), x.fullest(0), x.fullest(1));
            tides(x, 1);
            row("none has any", of(-1, -1), x.fullest(0), x.fullest(1));
            row("no THINGS", of(-1, -1), in("house 0;").fullest(0), in("house 0;").fullest(1));
            row("ten", of(0, 10), in("house 0;" + "thing 0 1 1 1;".repeat(10)).fullest(0),
                    in("house 0;" + "thing 0 1 1 1;".repeat(10)).fullest(1));
        });
        illegalAsks(31, fullest, x -> x.fullest(-1), x -> x.fullest(2), x -> x.fullest(MIN), x -> x.fullest(MAX));
    }

    private static void pays() {
        String pays = "What is paid to a HOUSE in the next n TIDES (0 to 60).";
        edge(32, pays, () -> {
            TideLodger x = in(LATE);
            row("HOUSE 0", of(0, 0, 5, 5, 7, 11, 13), x.pays(0, 0), x.pays(0, 11), x.pays(0, 12), x.pays(0, 23),
                    x.pays(0, 24), x.pays(0, 59), x.pays(0, 60));
            row("HOUSE 1", of(2, 7, 13), x.pays(1, 12), x.pays(1, 24), x.pays(1, 60));
            tides(x, 12);
            row("what was paid ahead is not counted", of(0, 2), x.pays(0, 0), x.pays(0, 12));
        });
        edge(32, pays, () -> {
            TideLodger x = in("house 0;house 40;tide 40;");
            due(1, "law", law(x, "99"));
            row("the most, none", of(5940, 0), x.pays(0, 60), x.pays(1, 60));
        });
        missingAsks(32, NO_SUCH, x -> x.pays(3, 0), x -> x.pays(-1, 0), x -> x.pays(3, 61), x -> x.pays(MIN, MIN),
                x -> x.pays(MAX, MAX));
        illegalAsks(32, pays, x -> x.pays(0, -1), x -> x.pays(2, 61), x -> x.pays(0, MIN), x -> x.pays(0, MAX));
    }

    private static void neap() {
        String neap = "Of the next 60 TIDES the longest row of such as are in no HOUSE: 0 how many, 1 how many TIDES come ahead "
                + "of it, of alike ones the first (NONE without).";
        edge(33, neap, () -> {
            TideLodger x = in(LATE);
            row("the first of five", of(11, 0), x.neap(0), x.neap(1));
            tides(x, 5);
            row("cut at the front", of(11, 7), x.neap(0), x.neap(1));
            due(2, "work", work(x, "again 2[bag 0;];"));
            row("the other HOUSE is as low", of(11, 7), x.neap(0), x.neap(1));
            due(10, "work", work(x, "again 5[bag 0;bag 1;];"));
            row("none is in any", of(60, 0), x.neap(0), x.neap(1));
        });
        edge(33, neap, () -> {
            row("none", of(0, -1), in("house 0;tide 1;").neap(0), in("house 0;tide 1;").neap(1));
            row("all", of(60, 0), in("house 1;tide 1;").neap(0), in("house 1;tide 1;").neap(1));
            row("without HOUSES", of(60, 0), in("tide 1;").neap(0), in("tide 1;").neap(1));
            row("without TIDES", of(60, 0), in("house 0;").neap(0), in("house 0;").neap(1));
        });
        edge(33, neap, () -> {
            TideLodger x = in("house 4;house 2;tide 1;tide 3;tide 2;tide 0;tide 9;tide 1;tide 0;tide 5;");
            row("in no HOUSE, not in the first alone", of(2, 2), x.neap(0), x.neap(1));
            tides(x, 3);
            row("of alike ones the first", of(2, 2), x.neap(0), x.neap(1));
        });
        illegalAsks(33, neap, x -> x.neap(-1), x -> x.neap(2), x -> x.neap(MIN), x -> x.neap(MAX));
    }

    private static void loads() {
        String loads = "WEIGHT of the THINGS in a HOUSE that are down (what 0), up (1), together.";
        edge(34, loads, () -> {
            TideLodger x = in("house 0;house 0;" + "thing 0 9 20 1;".repeat(8) + "thing 0 1 1 9;thing 1 2 1 1;tide 1;");
            row("all down", of(73, 0, 2, 0), x.loads(0, 0), x.loads(0, 1), x.loads(1, 0), x.loads(1, 1));
            due(4, "work", work(x, "lift 0;tie 1;lift 7;tide;"));
            row("two up, one tied, one afloat, one GONE", of(54, 18, 1, 0), x.loads(0, 0), x.loads(0, 1), x.loads(1, 0),
                    x.loads(1, 1));
        });
        missingAsks(34, NO_SUCH, x -> x.loads(3, 0), x -> x.loads(-1, 0), x -> x.loads(3, 2), x -> x.loads(MIN, MIN),
                x -> x.loads(MAX, MAX));
        illegalAsks(34, loads, x -> x.loads(0, -1), x -> x.loads(2, 2), x -> x.loads(0, MIN), x -> x.loads(0, MAX));
    }

    private static void dearest() {
        String dearest = "The HOUSE that was paid most (what 0), of alike ones the first, how much (1); NONE both: nothing was "
                + "paid.";
        edge(35, dearest, () -> {
            TideLodger x = in("house 40;house 3;house 2;house 3;tide 3;tide 4;rent 0;");
            due(1, "law", law(x, "depth - 1"));
            row("nothing was paid", of(-1, -1), x.dearest(0), x.dearest(1));
            tides(x, 1);
            row("a DUE of 0 is nothing", of(-1, -1), x.dearest(0), x.dearest(1));
            tides(x, 1);
            row("one was paid", of(2, 1), x.dearest(0), x.dearest(1));
            due(1, "law", law(x, "house + 1"));
            tides(x, 2);
            row("most by the last", of(2, 7), x.dearest(0), x.dearest(1));
        });
        edge(35, dearest, () -> {
            TideLodger x = in("house 9;house 0;house 0;tide 4;");
            due(1, "law", law(x, "5"));
            tides(x, 1);
            row("of alike ones the first", of(1, 5), x.dearest(0), x.dearest(1));
            due(0, "undo", x.undo());
            row("undone", of(-1, -1), x.dearest(0), x.dearest(1));
        });
        edge(35, dearest, () -> {
            TideLodger x = in("house 0;house 0;tide 4;");
            due(1, "law", law(x, "9 - house"));
            tides(x, 1);
            row("HOUSE 0", of(0, 9), x.dearest(0), x.dearest(1));
            due(1, "law", law(x, "5 + house * 2"));
            tides(x, 2);
            row("HOUSE 1 by what was paid since", of(1, 22), x.dearest(0), x.dearest(1));
        });
        illegalAsks(35, dearest, x -> x.dearest(-1), x -> x.dearest(2), x -> x.dearest(MIN), x -> x.dearest(MAX));
    }

    private static void dry() {
        String dry = "How many of the next n TIDES (0 to 60) are in none of told HOUSES (bits).";
        edge(36, dry, () -> {
            TideLodger x = in(LATE);
            row("dry", of(0, 11, 11, 22, 22, 55, 55), x.dry(3, 0), x.dry(1, 11), x.dry(2, 12), x.dry(3, 23), x.dry(3, 24),
                    x.dry(1, 59), x.dry(3, 60));
            row("of no HOUSE", of(0, 60), x.dry(0, 0), x.dry(0, 60));
        });
        edge(36, dry, () -> {
            TideLodger x = in("house 3;house 4;house 40;tide 3;tide 4;tide 5;");
            row("dry", of(1, 2, 3, 1, 2, 1, 3), x.dry(1, 3), x.dry(2, 3), x.dry(4, 3), x.dry(3, 3), x.dry(6, 3), x.dry(7, 3),
                    x.dry(0, 3));
            due(60, "by all of 60", x.dry(4, 60));
            due(1, "work", work(x, "bag 0;"));
            row("with a bag", of(3, 2), x.dry(1, 3), x.dry(3, 3));
        });
        illegalAsks(36, NO_HOUSES, x -> x.dry(8, 0), x -> x.dry(-1, 0), x -> x.dry(9, 0), x -> x.dry(MIN, 0),
                x -> x.dry(MAX, 0));
        illegalAsks(36, dry, x -> x.dry(0, -1), x -> x.dry(7, 61), x -> x.dry(0, MIN), x -> x.dry(0, MAX));
    }

    // ---- promises 37 and 38
    private static int[] years(TideLodger x, int seed, int tides, int q, int k) {
        return of(x.year(seed, tides, q, k, 0), x.year(seed, tides, q, k, 1), x.year(seed, tides, q, k, 2),
                x.year(seed, tides, q, k, 3));
    }

    private static void yearOfTides() {
        edge(37, YEAR, () -> {
            TideLodger x = in(LATE);
            row("1", of(9, 0, 0, 0), years(x, 0, 1, 0, 20));
            row("11", of(9, 0, 0, 0), years(x, 0, 11, 0, 20));
            row("12", of(8, 7, 0, 0), years(x, 0, 12, 0, 20));
            row("24", of(0, 14, 1, 0), years(x, 0, 24, 0, 20));
            row("95", of(0, 34, 1, 0), years(x, 0, 95, 0, 20));
            row("96", of(0, 38, 1, 0), years(x, 0, 96, 0, 20));
        });
        edge(37, YEAR, () -> {
            TideLodger x = in("house 0;thing 0 1 1 9;tide 1;rent 0;");
            due(1, "law", law(x, "tide + 1"));
            due(2, "work", work(x, "lift 0;tide;"));
            row("from here on", of(9, 5, 0, 0), years(x, 0, 2, 0, 0));
            due(2, "work", work(x, "lower 0;tide;"));
            row("what is GONE ahead", of(0, 3, 1, 0), years(x, 0, 1, 0, 0));
        });
        illegalAsks(37, YEAR, x -> x.year(0, 0, 0, 0, 0), x -> x.year(0, 97, 0, 0, 0), x -> x.year(0, 1, -1, 0, 0),
                x -> x.year(0, 1, 17, 0, 0), x -> x.year(0, 1, 0, -1, 0), x -> x.year(0, 1, 0, 21, 0),
                x -> x.year(0, 1, 0, 0, -1), x -> x.year(0, 1, 0, 0, 4), x -> x.year(0, MIN, 0, 0, 0),
                x -> x.year(0, MAX, MAX, MAX, MAX), x -> x.year(0, -1, 0, 0, 3));
    }

    private static void winds() {
        String wind = "DRAW by 16 below Q: wind: HEIGHT of this TIDE is K more; then tide.";
        edge(37, wind, () -> {
            TideLodger x = in("house 0;tide 0;");
            // SEED 2 draws 12, 1, 15, 2, 13, 7, 8, 9, 14, 3.
            row("winds of SEED 2 below 1, 2, 3, 12, 13, 15, 16", of(0, 1, 2, 0, 1, 2, 3), x.year(2, 10, 1, 9, 3),
                    x.year(2, 10, 2, 9, 3), x.year(2, 10, 3, 9, 3), x.year(2, 1, 12, 9, 3), x.year(2, 1, 13, 9, 3),
                    x.year(2, 3, 15, 9, 3), x.year(2, 3, 16, 9, 3));
            row("Q 0, Q 16", of(0, 96), x.year(2, 96, 0, 9, 3), x.year(2, 96, 16, 9, 3));
        });
        edge(37, wind, () -> {
            TideLodger x = in("house 10;tide 10;rent 0;");
            due(1, "law", law(x, "depth"));
            // SEED 8 draws 2, 0, 2, 9.
            row("K more by a wind alone", of(1, 1, 3, 3), x.year(8, 2, 1, 1, 1), x.year(8, 2, 1, 1, 3), x.year(8, 4, 3, 1, 1),
                    x.year(8, 4, 3, 1, 3));
            row("K 0, 20", of(0, 20, 60), x.year(8, 4, 16, 0, 1), x.year(8, 2, 1, 20, 1), x.year(8, 4, 3, 20, 1));
        });
        edge(37, wind, () -> {
            TideLodger x = in("house 0;house 40;thing 0 1 20 9;thing 1 1 20 9;tide 60;");
            due(1, "law", law(x, "depth"));
            tides(x, 1);
            row("80 high", of(0, 120, 2, 1), x.year(1, 1, 16, 20, 0), x.year(1, 1, 16, 20, 1), x.year(1, 1, 16, 20, 2),
                    x.year(1, 1, 16, 20, 3));
            row("K adds to no SILL and stays for no other TIDE", of(60, 20, 60), x.house(0, 2), x.house(1, 2), x.told(5));
        });
    }

    private static void drawing() {
        String draw = "DRAW: the SEED (32 bits) becomes itself times 1,103,515,245, and 12,345 (it wraps); its bits 16 to 30, by "
                + "16 what is left of them.";
        int[] seeds = {0, 1, 2, 7, -1, -2, MAX, MIN};
        int[][] draws = {{0, 12, 4, 5, 10, 15, 13, 13}, {6, 14, 1, 11, 11, 11, 2, 11}, {12, 1, 15, 2, 13, 7, 8, 9},
            {12, 14, 4, 2, 3, 5, 2, 14}, {9, 9, 6, 14, 9, 2, 8, 15}, {3, 6, 8, 8, 8, 6, 2, 2}, {9, 9, 6, 14, 9, 2, 8, 15},
            {0, 12, 4, 5, 10, 15, 13, 13}};
        for (int i = 0; i < seeds.length; i++) {
            int seed = seeds[i];
            int[] drawn = draws[i];
            edge(37, draw, () -> {
                TideLodger x = in("house 0;tide 0;");
                for (int tides = 1; tides <= drawn.length; tides++) {
                    for (int q : of(drawn[tides - 1], drawn[tides - 1] + 1)) {
                        int winds = 0;
                        for (int tide = 0; tide < tides; tide++) {
                            winds += drawn[tide] < q ? 1 : 0;
                        }
                        due(winds, "winds of SEED " + seed + " in " + tides + " below " + q, x.year(seed, tides, q, 1, 3));
                    }
                }
            });
        }
    }

    private static void span() {
        edge(38, SPAN, () -> {
            TideLodger x = in("house 0;house 10;thing 0 1 9 9;thing 1 1 20 5;tide 5;rent 0;");
            // SEED 2 draws 12, 1; SEED 3 draws 3, 3: by two winds one behind the other THING 0 is GONE.
            row("2 and 3", of(0, 1, 1, 2), x.span(2, 2, 2, 8, 20, 0, 0), x.span(2, 2, 2, 8, 20, 1, 0),
                    x.span(2, 2, 2, 8, 20, 2, 0), x.span(2, 2, 2, 8, 20, 2, 1));
            row("2 alone", of(0, 0, 1), x.span(2, 1, 2, 8, 20, 0, 0), x.span(2, 1, 2, 8, 20, 1, 0),
                    x.span(2, 1, 2, 8, 20, 2, 0));
            row("3 alone", of(1, 1, 0), x.span(3, 1, 2, 8, 20, 0, 0), x.span(3, 1, 2, 8, 20, 1, 0),
                    x.span(3, 1, 2, 8, 20, 2, 0));
        });
        edge(38, SPAN, () -> {
            TideLodger x = in("house 0;" + "thing 0 1 20 1;".repeat(9) + "thing 0 1 1 1;tide 0;");
            // By one wind of 20 all ten are GONE, by none of them none: SEEDS 0 and MIN draw 0, 1 draws 6, 8 draws 2.
            row("SEEDS 0, 1: none, all ten", of(0, 10, 1), x.span(0, 2, 1, 1, 20, 0, 9), x.span(0, 2, 1, 1, 20, 1, 9),
                    x.span(0, 2, 1, 1, 20, 2, 9));
            row("SEEDS MAX, MIN: over the wrap", of(0, 10, 1), x.span(MAX, 2, 1, 1, 20, 0, 9), x.span(MAX, 2, 1, 1, 20, 1, 9),
                    x.span(MAX, 2, 1, 1, 20, 2, 9));
            row("SEED MAX alone", of(0, 0, 1), x.span(MAX, 1, 1, 1, 20, 0, 0), x.span(MAX, 1, 1, 1, 20, 1, 0),
                    x.span(MAX, 1, 1, 1, 20, 2, 0));
            row("SEEDS -1, 0", of(0, 10, 1), x.span(-1, 2, 1, 1, 20, 0, 9), x.span(-1, 2, 1, 1, 20, 1, 9),
                    x.span(-1, 2, 1, 1, 20, 2, 9));
            row("twenty, by each and by none", of(10, 10, 0, 0, 0, 20), x.span(5, 20, 96, 16, 20, 0, 0),
                    x.span(5, 20, 96, 16, 20, 1, 0), x.span(5, 20, 96, 16, 20, 2, 0), x.span(5, 20, 96, 0, 20, 0, 0),
                    x.span(5, 20, 96, 0, 20, 1, 0), x.span(5, 20, 96, 0, 20, 2, 0));
        });
        edge(38, SPAN, () -> {
            TideLodger x = in("house 0;thing 0 1 1 9;thing 0 1 20 9;tide 1;");
            tides(x, 1);
            row("GONE ahead of it", of(1, 1, 0, 20), x.span(0, 20, 1, 0, 0, 0, 0), x.span(0, 20, 1, 0, 0, 1, 0),
                    x.span(0, 20, 1, 0, 0, 2, 0), x.span(0, 20, 1, 0, 0, 2, 1));
        });
        illegalAsks(38, SPAN, x -> x.span(0, 0, 1, 0, 0, 0, 0), x -> x.span(0, 21, 1, 0, 0, 0, 0),
                x -> x.span(0, -1, 1, 0, 0, 0, 0), x -> x.span(0, 1, 0, 0, 0, 0, 0), x -> x.span(0, 1, 97, 0, 0, 0, 0),
                x -> x.span(0, 1, 1, -1, 0, 0, 0), x -> x.span(0, 1, 1, 17, 0, 0, 0), x -> x.span(0, 1, 1, 0, -1, 0, 0),
                x -> x.span(0, 1, 1, 0, 21, 0, 0), x -> x.span(0, 1, 1, 0, 0, -1, 0), x -> x.span(0, 1, 1, 0, 0, 3, 0),
                x -> x.span(0, MIN, 1, 0, 0, 0, 0), x -> x.span(MAX, MAX, MAX, MAX, MAX, MAX, MAX));
        illegalAsks(38, "(IllegalArgumentException: no such THING, also for 0, 1.)", x -> x.span(0, 1, 1, 0, 0, 2, 4),
                x -> x.span(0, 1, 1, 0, 0, 2, -1), x -> x.span(0, 1, 1, 0, 0, 0, 4), x -> x.span(0, 1, 1, 0, 0, 0, -1),
                x -> x.span(0, 1, 1, 0, 0, 1, 4), x -> x.span(0, 1, 1, 0, 0, 1, -1), x -> x.span(0, 1, 1, 0, 0, 1, MIN),
                x -> x.span(0, 1, 1, 0, 0, 0, MAX));
    }
}
