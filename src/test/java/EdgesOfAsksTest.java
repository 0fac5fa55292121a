/** Edges of promises 9 to 26: what is told, and what is asked of the TIDES to come, of STAINS and of DRIFT. */
public final class EdgesOfAsksTest extends Edges {
    private static final int MIN = Integer.MIN_VALUE;
    private static final int MAX = Integer.MAX_VALUE;
    private static final String ANOTHER = "IllegalArgumentException: another what (so below).";
    private static final String NO_SUCH = "NoSuchElementException: no such HOUSE, THING, TIDE, FIND (so below, ahead of "
            + "others).";
    private static final String NO_HOUSES = "IllegalArgumentException: bits of no HOUSES (so below).";
    private static final String REFUSED = "8 STEPS REFUSED by the latest WORK (0 ahead of any, behind street() without a "
            + "FAULT, undo(), restore(); a FAULT, -20, -1 leave it)";

    private EdgesOfAsksTest() { }

    public static void main(String[] args) {
        watch();
        told();
        toldRefused();
        house();
        thing();
        heightAndFind();
        due();
        would();
        ahead();
        comesAndSpring();
        carry();
        rent();
        bags();
        parlour();
        inBySets();
        board();
        drift();
        whence();
        nothingChanged();
        beyondTheLast();
        end("EdgesOfAsksTest", 9, 26);
    }

    // ---- promise 9
    private static void told() {
        edge(9, "0 HOUSES, 1 THINGS, 2 TIDES, 3 FINDS, 4 the number of the TIDE to come, 5 its HEIGHT, 6 R, 7 lines of the "
                + "STAINS", () -> {
            TideLodger x = in("house 0;".repeat(6) + "thing 0 1 1 40;".repeat(10) + "tide 60;".repeat(12)
                    + "find 1 1;".repeat(6) + "rent 40;");
            due(6, "stains", stains(x, "0 1;1 1;2 1;3 1;4 1;5 1;"));
            row("at the most", of(6, 10, 12, 6, 0, 60, 40, 6, 0, 0, 400, 0), x.told(0), x.told(1), x.told(2), x.told(3),
                    x.told(4), x.told(5), x.told(6), x.told(7), x.told(8), x.told(9), x.told(10), x.told(11));
        });
        edge(9, "4 the number of the TIDE to come, 5 its HEIGHT", () -> {
            TideLodger x = in("tide 1;tide 2;tide 3;");
            tides(x, 500);
            row("TIDE 500 is the third told one", of(500, 3), x.told(4), x.told(5));
        });
        edge(9, "9 THINGS that are GONE, 10 WORTH of all that are not, 11 what was paid in all", () -> {
            TideLodger x = in("house 0;thing 0 1 1 9;thing 0 1 2 7;thing 0 1 3 0;tide 1;tide 2;tide 3;rent 0;");
            row("at first", of(0, 16, 0), x.told(9), x.told(10), x.told(11));
            tides(x, 1);
            row("one GONE", of(1, 6, 3), x.told(9), x.told(10), x.told(11));
            tides(x, 1);
            row("two GONE", of(2, 0, 6), x.told(9), x.told(10), x.told(11));
            tides(x, 1);
            row("all GONE", of(3, 0, 9), x.told(9), x.told(10), x.told(11));
        });
        illegalAsks(9, ANOTHER, x -> x.told(-1), x -> x.told(12), x -> x.told(MIN), x -> x.told(MAX));
    }

    private static TideLodger refusedTwo() {
        TideLodger x = in("house 0;thing 0 1 1 9;tide 1;");
        due(0, "work", work(x, "lower 0;untie 0;"));
        due(2, "REFUSED", x.told(8));
        return x;
    }

    private static void toldRefused() {
        edge(9, REFUSED, () -> due(0, "ahead of any", in("house 0;").told(8)));
        edge(9, REFUSED, () -> {
            TideLodger x = refusedTwo();
            due(1, "a WORK with one REFUSED", work(x, "tide;lower 0;"));
            due(1, "REFUSED by the latest", x.told(8));
            due(0, "a WORK of no STEPS", x.work(0));
            due(0, "REFUSED by the latest", x.told(8));
        });
        edge(9, REFUSED, () -> {
            TideLodger x = refusedTwo();
            due(0, "street", x.street(0));
            due(0, "behind street() without a FAULT", x.told(8));
        });
        edge(9, REFUSED, () -> {
            TideLodger x = refusedTwo();
            due(0, "work", work(x, "lower 0;"));
            due(1, "undo", x.undo());
            due(0, "behind undo()", x.told(8));
        });
        edge(9, REFUSED, () -> {
            TideLodger x = refusedTwo();
            due(1, "image", x.image());
            due(2, "image() leaves it", x.told(8));
            due(0, "restore", x.restore());
            due(0, "behind restore()", x.told(8));
        });
        edge(9, REFUSED, () -> {
            TideLodger x = refusedTwo();
            due(-9, "a FAULT of street", street(x, "x"));
            due(2, "it leaves it", x.told(8));
            due(-9, "a FAULT of law", law(x, "x"));
            due(2, "it leaves it", x.told(8));
            due(-9, "a FAULT of work", work(x, "tide;x"));
            due(2, "it leaves it", x.told(8));
            due(-9, "a FAULT of stains", stains(x, "x"));
            due(2, "it leaves it", x.told(8));
        });
        edge(9, REFUSED, () -> {
            TideLodger x = refusedTwo();
            due(-1, "restore() of none", x.restore());
            due(2, "-1 leaves it", x.told(8));
            for (int images = 1; images <= 3; images++) {
                due(images, "image", x.image());
            }
            due(-1, "a fourth IMAGE", x.image());
            due(2, "-1 leaves it", x.told(8));
        });
        edge(9, REFUSED, () -> {
            TideLodger x = in("house 0;thing 0 1 1 9;tide 1;");
            due(0, "work", work(x, "lower 0;"));
            due(1, "image", x.image());
            due(0, "undo", x.undo());
            due(0, "restore", x.restore());
            due(0, "undo", x.undo());
            due(-1, "undo() of none", x.undo());
            due(0, "told(8)", x.told(8));
        });
        edge(9, REFUSED, () -> {
            TideLodger x = refusedTwo();
            for (int works = 2; works <= 16; works++) {
                due(0, "work", work(x, "lower 0;lower 0;lower 0;"));
            }
            due(-20, "a seventeenth", work(x, "lower 0;"));
            due(3, "-20 leaves it", x.told(8));
        });
        edge(9, REFUSED, () -> {
            TideLodger x = refusedTwo();
            due(1, "law", law(x, "1"));
            due(0, "stains", x.stains(0));
            illegal("work(1)", () -> x.work(1));
            due(2, "no WORK came", x.told(8));
        });
        edge(9, REFUSED, () -> {
            TideLodger x = in("tide 1;");
            tides(x, 500);
            due(0, "work", work(x, "again 20[again 9[tide;];];"));
            // 1, then 10 for each of nineteen rounds, then an again and eight more.
            due(179, "REFUSED", x.told(8));
        });
    }

    // ---- promises 10 to 13
    private static void house() {
        edge(10, "0 its SILL with bags, 1 bags, 2 WATER by the TIDE to come, 3 THINGS that are there (bits, up and down), 4 "
                + "what was paid to it.", () -> {
            TideLodger x = in("house 40;house 0;house 0;" + "thing 2 1 1 9;".repeat(9) + "thing 1 1 1 9;tide 60;tide 1;rent 0;");
            row("house(0)", of(40, 0, 20, 0, 0), x.house(0, 0), x.house(0, 1), x.house(0, 2), x.house(0, 3), x.house(0, 4));
            row("house(2)", of(0, 0, 60, 511, 0), x.house(2, 0), x.house(2, 1), x.house(2, 2), x.house(2, 3), x.house(2, 4));
            due(512, "the tenth THING", x.house(1, 3));
            due(3, "work", work(x, "lift 0;tie 1;tide;"));
            row("GONE ones are not there", of(515, 0, 1), x.house(2, 3), x.house(1, 3), x.house(2, 2));
            row("paid", of(5, 18, 36), x.house(0, 4), x.house(1, 4), x.house(2, 4));
        });
        missingAsks(10, NO_SUCH, x -> x.house(3, 0), x -> x.house(-1, 0), x -> x.house(6, 4), x -> x.house(3, 5),
                x -> x.house(-1, -1), x -> x.house(MIN, MIN), x -> x.house(MAX, MAX));
        illegalAsks(10, ANOTHER, x -> x.house(0, 5), x -> x.house(2, -1), x -> x.house(0, MIN), x -> x.house(0, MAX));
    }

    private static void thing() {
        edge(11, "3 the HOUSE (NONE: GONE)", () -> {
            TideLodger x = in("house 0;thing 0 9 1 40;tide 1;");
            tides(x, 1);
            row("GONE", of(9, 1, 39, -1, 0, 0, 0), x.thing(0, 0), x.thing(0, 1), x.thing(0, 2), x.thing(0, 3),
                    x.thing(0, 4), x.thing(0, 5), x.thing(0, 6));
        });
        edge(11, "4 1 up, 0 not, 5 1 tied, 0 not, 6 by how much its rope is worn (0: not tied).", () -> {
            TideLodger x = in("house 0;thing 0 1 1 9;thing 0 1 1 9;tide 1;rope 9;");
            due(10, "work", work(x, "tie 0;lift 1;" + "tide;".repeat(8)));
            row("tied", of(0, 1, 8), x.thing(0, 4), x.thing(0, 5), x.thing(0, 6));
            row("up", of(1, 0, 0), x.thing(1, 4), x.thing(1, 5), x.thing(1, 6));
            due(1, "work", work(x, "untie 0;"));
            row("not tied any more", of(0, 0, 0), x.thing(0, 4), x.thing(0, 5), x.thing(0, 6));
        });
        missingAsks(11, NO_SUCH, x -> x.thing(4, 0), x -> x.thing(-1, 0), x -> x.thing(10, 3), x -> x.thing(4, 7),
                x -> x.thing(-1, -1), x -> x.thing(MIN, 0), x -> x.thing(MAX, 9));
        illegalAsks(11, ANOTHER, x -> x.thing(0, 7), x -> x.thing(3, -1), x -> x.thing(0, MIN), x -> x.thing(0, MAX));
    }

    private static void heightAndFind() {
        String height = "HEIGHT of the TIDE that comes n TIDES (0 to 99) behind the next.";
        edge(12, height, () -> {
            TideLodger x = in("tide 5;tide 6;tide 7;");
            row("height", of(5, 6, 7, 5, 7, 5), x.height(0), x.height(1), x.height(2), x.height(3), x.height(98), x.height(99));
            due(2, "work", work(x, "tide;tide;"));
            row("two on", of(7, 5, 6, 7), x.height(0), x.height(1), x.height(98), x.height(99));
        });
        illegalAsks(12, height, x -> x.height(-1), x -> x.height(100), x -> x.height(MIN), x -> x.height(MAX));
        edge(13, "Of a FIND: 0 V, 1 Q.", () -> {
            TideLodger x = in("find 1 0;find 40 16;");
            row("find", of(1, 0, 40, 16), x.find(0, 0), x.find(0, 1), x.find(1, 0), x.find(1, 1));
        });
        missingAsks(13, NO_SUCH, x -> x.find(2, 0), x -> x.find(-1, 1), x -> x.find(6, 0), x -> x.find(2, 2),
                x -> x.find(-1, -1), x -> x.find(MIN, 0), x -> x.find(MAX, 5));
        illegalAsks(13, ANOTHER, x -> x.find(0, 2), x -> x.find(1, -1), x -> x.find(0, MIN), x -> x.find(0, MAX));
    }

    // ---- promises 14 and 15
    private static void due() {
        String none = "DUE of a HOUSE by the TIDE to come (0: it is not in it).";
        edge(14, none, () -> {
            TideLodger x = in("house 3;house 4;house 2;tide 3;tide 4;");
            due(1, "law", law(x, "depth * 10 + 5"));
            row("due", of(0, 0, 15), x.due(0), x.due(1), x.due(2));
            tides(x, 1);
            row("due by the next", of(15, 0, 25), x.due(0), x.due(1), x.due(2));
            due(1, "work", work(x, "bag 0;"));
            due(0, "due with a bag", x.due(0));
        });
        edge(14, none, () -> {
            TideLodger x = in("house 0;thing 0 1 1 9;thing 0 1 2 9;thing 0 1 1 9;thing 0 1 1 9;tide 1;");
            due(1, "law", law(x, "lost * 10 + wet"));
            due(34, "all that are down, three that float", x.due(0));
            due(2, "work", work(x, "lift 0;tie 2;"));
            due(13, "without what is up; what is tied is wet alone", x.due(0));
            due(1, "work", work(x, "tide;"));
            row("paid the same", of(13, 2), x.told(11), x.due(0));
        });
        missingAsks(14, NO_SUCH, x -> x.due(3), x -> x.due(-1), x -> x.due(6), x -> x.due(MIN), x -> x.due(MAX));
    }

    private static void would() {
        String would = "DUE by the LAW for such depth (1 to 60), lost, wet (0 to 10), tide (0 to 999), rent (0 to 40), house "
                + "(0 to 5).";
        String[] names = {"depth", "lost", "wet", "tide - 900", "moon", "rent", "house"};
        int[] lowest = {1, 0, 0, 0, 0, 0, 0};
        int[] highest = {60, 10, 10, 99, 7, 40, 5};
        for (int i = 0; i < names.length; i++) {
            int at = i;
            edge(15, would, () -> {
                TideLodger x = new TideLodger();
                due(1, "law", law(x, names[at]));
                due(lowest[at], names[at] + " at the lowest", x.would(1, 0, 0, 0, 0, 0));
                due(highest[at], names[at] + " at the highest", x.would(60, 10, 10, 999, 40, 5));
            });
        }
        edge(15, would, () -> {
            TideLodger x = new TideLodger();
            due(1, "law", law(x, "tide - 900"));
            row("DUE, 0 at least, 99 at most", of(0, 0, 1, 99), x.would(1, 0, 0, 0, 0, 0), x.would(1, 0, 0, 900, 0, 0),
                    x.would(1, 0, 0, 901, 0, 0), x.would(1, 0, 0, 999, 0, 0));
        });
        illegalAsks(15, would, x -> x.would(0, 0, 0, 0, 0, 0), x -> x.would(61, 0, 0, 0, 0, 0),
                x -> x.would(1, -1, 0, 0, 0, 0), x -> x.would(1, 11, 0, 0, 0, 0), x -> x.would(1, 0, -1, 0, 0, 0),
                x -> x.would(1, 0, 11, 0, 0, 0), x -> x.would(1, 0, 0, -1, 0, 0), x -> x.would(1, 0, 0, 1000, 0, 0),
                x -> x.would(1, 0, 0, 0, -1, 0), x -> x.would(1, 0, 0, 0, 41, 0), x -> x.would(1, 0, 0, 0, 0, -1),
                x -> x.would(1, 0, 0, 0, 0, 6), x -> x.would(MIN, 0, 0, 0, 0, 0), x -> x.would(MAX, MAX, MAX, MAX, MAX, MAX));
    }

    // ---- promises 16 to 18
    private static int[] aheads(TideLodger x, int n) {
        return of(x.ahead(n, 0), x.ahead(n, 1), x.ahead(n, 2), x.ahead(n, 3));
    }

    private static void ahead() {
        String ahead = "In n TIDES (0 to 60): 0 WORTH of all that are not GONE then, 1 GONE then, 2 what is paid in them, 3 how "
                + "often a TIDE is in a HOUSE.";
        edge(16, ahead, () -> {
            TideLodger x = in(LATE);
            row("ahead(0)", of(9, 0, 0, 0), aheads(x, 0));
            row("ahead(11)", of(9, 0, 0, 0), aheads(x, 11));
            row("ahead(12)", of(8, 0, 7, 2), aheads(x, 12));
            row("ahead(23)", of(8, 0, 7, 2), aheads(x, 23));
            row("ahead(24)", of(0, 1, 14, 4), aheads(x, 24));
            row("ahead(59)", of(0, 1, 22, 8), aheads(x, 59));
            row("ahead(60)", of(0, 1, 26, 10), aheads(x, 60));
        });
        edge(16, ahead, () -> {
            TideLodger x = in(LATE);
            tides(x, 24);
            row("what was GONE and paid ahead", of(0, 1, 0, 0), aheads(x, 0));
            row("in the next 12", of(0, 1, 4, 2), aheads(x, 12));
            row("it comes so", of(1, 14), x.told(9), x.told(11));
        });
        edge(16, ahead, () -> {
            TideLodger x = in("house 0;".repeat(6) + "tide 60;");
            due(1, "law", law(x, "99"));
            row("the most", of(0, 0, 35640, 360), aheads(x, 60));
        });
        illegalAsks(16, ahead, x -> x.ahead(-1, 0), x -> x.ahead(61, 3), x -> x.ahead(MIN, 1), x -> x.ahead(MAX, 2),
                x -> x.ahead(0, -1), x -> x.ahead(60, 4), x -> x.ahead(0, MAX), x -> x.ahead(0, MIN));
    }

    private static void comesAndSpring() {
        String comes = "How many of the next 60 TIDES come ahead of the first one that is in a HOUSE; NONE: none is.";
        edge(17, comes, () -> {
            TideLodger x = in("house 5;house 6;house 4;tide 5;tide 6;");
            row("comes", of(1, -1, 0), x.comes(0), x.comes(1), x.comes(2));
            due(1, "work", work(x, "bag 2;"));
            due(-1, "with a bag", x.comes(2));
        });
        edge(17, comes, () -> {
            TideLodger x = in(LATE);
            due(11, "the twelfth", x.comes(0));
            tides(x, 11);
            due(0, "the next", x.comes(0));
            tides(x, 1);
            due(11, "the first again", x.comes(1));
        });
        missingAsks(17, NO_SUCH, x -> x.comes(3), x -> x.comes(-1), x -> x.comes(MIN), x -> x.comes(MAX));
        String spring = "The TIDE of the next 24 (0: the next) that is highest (what 0), of these the first, its HEIGHT (1).";
        edge(18, spring, () -> {
            TideLodger x = in(LATE);
            row("spring", of(11, 9), x.spring(0), x.spring(1));
            tides(x, 11);
            row("the next", of(0, 9), x.spring(0), x.spring(1));
            tides(x, 1);
            row("the twelfth", of(11, 9), x.spring(0), x.spring(1));
        });
        edge(18, spring, () -> {
            TideLodger x = in("tide 7;tide 60;tide 0;tide 60;tide 59;");
            row("of these the first", of(1, 60), x.spring(0), x.spring(1));
            tides(x, 2);
            row("of these the first", of(1, 60), x.spring(0), x.spring(1));
            row("all alike", of(0, 4), in("tide 4;tide 4;").spring(0), in("tide 4;tide 4;").spring(1));
            row("without TIDES", of(0, 0), in("house 0;").spring(0), in("house 0;").spring(1));
        });
        illegalAsks(18, spring, x -> x.spring(-1), x -> x.spring(2), x -> x.spring(MIN), x -> x.spring(MAX));
    }

    // ---- promises 19 to 21
    private static int[] carried(TideLodger x, int c, int n) {
        return of(x.carry(c, n, 0), x.carry(c, n, 1));
    }

    private static void carry() {
        String most = "of c WEIGHT in all at most";
        edge(19, most, () -> {
            TideLodger x = in("house 0;thing 0 5 1 10;thing 0 4 1 3;tide 1;");
            row("0", of(0, 0), carried(x, 0, 1));
            row("3", of(0, 0), carried(x, 3, 1));
            row("4", of(3, 2), carried(x, 4, 1));
            row("5", of(10, 1), carried(x, 5, 1));
            row("8", of(10, 1), carried(x, 8, 1));
            row("9", of(13, 3), carried(x, 9, 1));
            row("99", of(13, 3), carried(x, 99, 1));
        });
        edge(19, most, () -> {
            TideLodger x = in("house 0;" + "thing 0 9 1 40;".repeat(10) + "tide 1;");
            row("all of ninety", of(400, 1023), carried(x, 90, 1));
            row("nine of them", of(360, 511), carried(x, 89, 1));
        });
        edge(19, "CARRY (c 0 to 99, n 0 to 24): 0 the WORTH, 1 the set.", () -> {
            TideLodger x = in(LATE);
            row("by 0", of(9, 0), carried(x, 99, 0));
            row("by 11", of(9, 0), carried(x, 99, 11));
            row("by 12", of(9, 1), carried(x, 99, 12));
            row("by 23, none", of(8, 0), carried(x, 0, 23));
            row("by 24, none", of(0, 0), carried(x, 0, 24));
            row("by 24", of(9, 1), carried(x, 1, 24));
        });
        edge(19, "of alike ones the least bits.", () -> {
            TideLodger x = in("house 0;thing 0 1 20 9;thing 0 1 20 9;thing 0 1 20 0;tide 1;");
            row("one of two", of(17, 1), carried(x, 1, 1));
            row("both, and not what is worth nothing", of(18, 3), carried(x, 9, 1));
            row("none saves any", of(18, 0), carried(x, 9, 0));
        });
        edge(19, "of alike ones the least bits.", () -> {
            // THINGS 0 and 1 save 2 and 3, THING 2 saves 5: as bits, 3 is less than 4.
            TideLodger x = in("house 0;thing 0 1 1 2;thing 0 1 1 3;thing 0 2 1 5;tide 1;");
            row("3, not 4", of(5, 3), carried(x, 2, 1));
        });
        edge(19, "of all sets of THINGS that are down, not tied", () -> {
            TideLodger x = in("house 0;thing 0 1 1 9;thing 0 1 1 8;thing 0 1 1 7;thing 0 1 1 6;tide 1;rope 1;");
            due(2, "work", work(x, "tie 0;lift 1;"));
            row("what is up stays whole, what is tied gets wet", of(29, 12), carried(x, 99, 1));
            row("what is up weighs nothing", of(23, 4), carried(x, 1, 1));
            tides(x, 1);
            row("the rope broke, two are GONE", of(16, 1), carried(x, 99, 1));
        });
        illegalAsks(19, "CARRY (c 0 to 99, n 0 to 24): 0 the WORTH, 1 the set.", x -> x.carry(-1, 0, 0),
                x -> x.carry(100, 0, 0), x -> x.carry(0, -1, 0), x -> x.carry(0, 25, 0), x -> x.carry(0, 0, -1),
                x -> x.carry(0, 0, 2), x -> x.carry(MIN, 0, 0), x -> x.carry(MAX, MAX, MAX));
    }

    private static void rent() {
        String least = "the least R (0 to 40) by which DUES of the next n TIDES are x or less in all; NONE.";
        edge(20, least, () -> {
            TideLodger x = in("house 0;tide 1;rent 7;");
            due(1, "law", law(x, "40 - rent"));
            row("rent", of(0, 1, 39, 40), x.rent(40, 1), x.rent(39, 1), x.rent(1, 1), x.rent(0, 1));
            due(1, "law", law(x, "41 - rent"));
            row("rent", of(-1, 40, 0), x.rent(0, 1), x.rent(1, 1), x.rent(41, 1));
            due(1, "law", law(x, "rent + 1"));
            row("rent", of(-1, 0, 0), x.rent(0, 1), x.rent(1, 1), x.rent(9999, 1));
            due(7, "R stays", x.told(6));
        });
        edge(20, least, () -> {
            TideLodger x = in("house 0;tide 1;");
            due(1, "law", law(x, "(rent - 5) * (rent - 5)"));
            row("up and down again", of(5, 4, 1, 0), x.rent(0, 1), x.rent(1, 1), x.rent(16, 1), x.rent(25, 1));
        });
        edge(20, "RENT (x 0 to 9,999, n 0 to 24).", () -> {
            TideLodger x = in(LATE);
            due(1, "law", law(x, "40 - rent"));
            row("by 11, 12", of(0, 39, 40), x.rent(0, 11), x.rent(2, 12), x.rent(1, 12));
            row("by 23, 24", of(39, 40, 39), x.rent(2, 23), x.rent(2, 24), x.rent(4, 24));
            due(0, "by 0", x.rent(0, 0));
        });
        edge(20, "RENT (x 0 to 9,999, n 0 to 24).", () -> {
            // Five HOUSES twenty times and one once: 101 times 99.
            TideLodger x = in("house 0;".repeat(5) + "house 10;" + "tide 1;".repeat(11) + "tide 20;");
            due(1, "law", law(x, "99"));
            row("9999", of(0, -1), x.rent(9999, 20), x.rent(9998, 20));
        });
        edge(20, least, () -> {
            TideLodger x = in("house 0;tide 1;");
            due(1, "law", law(x, "40 - rent"));
            tides(x, 5);
            due(39, "what was paid ahead is not counted", x.rent(1, 1));
        });
        illegalAsks(20, "RENT (x 0 to 9,999, n 0 to 24).", x -> x.rent(-1, 0), x -> x.rent(10000, 0), x -> x.rent(0, -1),
                x -> x.rent(0, 25), x -> x.rent(MIN, MIN), x -> x.rent(MAX, MAX));
    }

    private static void bags() {
        String nine = "(9 bags at most in each); NONE.";
        edge(21, nine, () -> {
            TideLodger x = in("house 0;house 1;house 2;tide 19;");
            row("19, 18, 17 deep", of(-1, 9, 9, 18, -1, -1), x.bags(1, 1), x.bags(2, 1), x.bags(4, 1), x.bags(6, 1),
                    x.bags(3, 1), x.bags(7, 1));
            due(1, "work", work(x, "bag 0;"));
            row("nine with what is there", of(-1, 9), x.bags(1, 1), x.bags(2, 1));
        });
        edge(21, nine, () -> {
            TideLodger x = in("house 0;tide 18;tide 19;");
            due(9, "work", work(x, "again 9[bag 0;];"));
            row("nine are there", of(0, -1), x.bags(1, 1), x.bags(1, 2));
        });
        edge(21, "the fewest bags more, of all together, by which none of the next n TIDES is in one of them", () -> {
            TideLodger x = in("house 5;house 0;tide 5;tide 6;tide 7;tide 8;");
            row("0, 1, 2, 3 deep", of(0, 1, 1, 2), x.bags(1, 1), x.bags(1, 2), x.bags(1, 3), x.bags(1, 4));
            row("both together, none", of(4, 6, 0), x.bags(3, 2), x.bags(3, 4), x.bags(0, 4));
            due(1, "work", work(x, "bag 0;"));
            row("more than are there", of(0, 0, 1), x.bags(1, 2), x.bags(1, 3), x.bags(1, 4));
        });
        edge(21, "BAGS (n 0 to 24).", () -> {
            TideLodger x = in(LATE);
            row("by 0, 11, 12, 24", of(0, 0, 10, 10), x.bags(3, 0), x.bags(3, 11), x.bags(3, 12), x.bags(3, 24));
        });
        illegalAsks(21, NO_HOUSES, x -> x.bags(8, 0), x -> x.bags(-1, 0), x -> x.bags(15, 0), x -> x.bags(MIN, 0),
                x -> x.bags(MAX, 0));
        illegalAsks(21, "BAGS (n 0 to 24).", x -> x.bags(7, -1), x -> x.bags(7, 25), x -> x.bags(0, MIN),
                x -> x.bags(0, MAX));
        edge(21, NO_HOUSES, () -> {
            TideLodger x = in("house 0;".repeat(6) + "tide 2;");
            row("all six", of(6, 1), x.bags(63, 1), x.bags(32, 1));
            illegal("bags(64, 1)", () -> x.bags(64, 1));
            due(0, "none", new TideLodger().bags(0, 24));
        });
    }

    // ---- promise 22
    private static int[] rests(int k, int q) {
        TideLodger x = new TideLodger();
        return of(x.parlour(k, q, 0), x.parlour(k, q, 1), x.parlour(k, q, 2));
    }

    private static void parlour() {
        edge(22, "if both together are no more than k, each has what it claims", () -> {
            // (1, 1) together are 2: each has all of it. (2, 2): by half of one hour, and nothing by another claim.
            row("parlour(2, 8)", of(2, 101, 32), rests(2, 8));
            // (1, 0) and (0, 1) are no RESTS: half of one hour is more than nothing.
            row("parlour(1, 8)", of(1, 101, 16), rests(1, 8));
        });
        edge(22, "PARLOUR (k 0 to 12, q 0 to 16)", () -> {
            for (int q : of(0, 8, 16)) {
                row("parlour(0, " + q + ")", of(1, 0, 0), rests(0, q));
            }
            // (1, 11) to (11, 1), and (12, 12).
            row("parlour(12, 8)", of(12, 111, 192), rests(12, 8));
        });
        edge(22, "PARLOUR (k 0 to 12, q 0 to 16)", () -> {
            // The HOUSE never has an hour of those they fight for: (1, 1), (1, 0).
            row("parlour(1, 16)", of(2, 100, 16), rests(1, 16));
            row("parlour(1, 0)", of(2, 1, 16), rests(1, 0));
            // (1, 6) to (7, 0), (7, 7), (7, 6).
            row("parlour(7, 16)", of(9, 106, 112), rests(7, 16));
            // (0, 7) to (6, 1), (7, 7), (6, 7).
            row("parlour(7, 0)", of(9, 7, 112), rests(7, 0));
        });
        edge(22, "1 the first (100 times the sea's claim, and the HOUSE's; the sea's least first; NONE), 2 what both have by it "
                + "together, in 16ths (0 without)", () -> {
            row("parlour(12, 0)", of(14, 12, 192), rests(12, 0));
            row("parlour(12, 16)", of(14, 111, 192), rests(12, 16));
        });
        for (int k = 0; k <= 12; k++) {
            int hours = k;
            edge(22, "RESTS: neither would have more by another claim.", () -> {
                for (int q = 0; q <= 16; q++) {
                    row("parlour(" + hours + ", " + q + ")", triedRests(hours, q), rests(hours, q));
                }
            });
        }
        edge(22, "if not, the sea has 1 by q of 16 (and the HOUSE has nothing), or the HOUSE has 1: what each has on the mean, "
                + "told in 16ths", () -> {
            // With q 1 the sea has less by a fight than by an hour of its own, with q 16 as much, and the HOUSE nothing.
            row("parlour(2, 1)", of(2, 101, 32), rests(2, 1));
            row("parlour(2, 15)", of(2, 101, 32), rests(2, 15));
            row("parlour(2, 16)", of(4, 101, 32), rests(2, 16));
            row("parlour(2, 0)", of(4, 2, 32), rests(2, 0));
        });
        illegalAsks(22, "PARLOUR (k 0 to 12, q 0 to 16)", x -> x.parlour(-1, 0, 0), x -> x.parlour(13, 0, 0),
                x -> x.parlour(0, -1, 0), x -> x.parlour(0, 17, 0), x -> x.parlour(0, 0, -1), x -> x.parlour(0, 0, 3),
                x -> x.parlour(MIN, 0, 0), x -> x.parlour(MAX, MAX, MAX), x -> x.parlour(12, MIN, 0));
    }

    private static int[] fight(int k, int q, int sea, int house) {
        return sea + house <= k ? of(16 * sea, 16 * house) : of(q, 16 - q);
    }

    private static int[] triedRests(int k, int q) {
        int[] row = {0, -1, 0};
        for (int claims = 0; claims < (k + 1) * (k + 1); claims++) {
            int sea = claims / (k + 1);
            int house = claims % (k + 1);
            int[] now = fight(k, q, sea, house);
            boolean rest = true;
            for (int other = 0; other <= k; other++) {
                rest &= fight(k, q, other, house)[0] <= now[0] && fight(k, q, sea, other)[1] <= now[1];
            }
            if (rest && row[0]++ == 0) {
                row[1] = 100 * sea + house;
                row[2] = now[0] + now[1];
            }
        }
        return row;
    }

    // ---- promises 23 and 24
    private static int[] ins(TideLodger x) {
        return of(x.in(0), x.in(1), x.in(2));
    }

    private static int[] insBy(TideLodger x, String lines) {
        due(lines.split(";").length, "stains " + lines, stains(x, lines));
        return ins(x);
    }

    private static void inBySets() {
        edge(23, "sets of told TIDES (not empty)", () -> {
            row("one TIDE", of(1, 1, 1), ins(in("tide 3;")));
            row("two", of(3, 1, 0), ins(in("tide 3;tide 3;")));
            row("twelve", of(4095, 1, 0), ins(in("tide 60;".repeat(12))));
            row("without TIDES", of(0, -1, 0), ins(in("house 0;")));
            row("without TIDES, none high", of(0, -1, 0), insBy(in("house 0;"), "0 0;"));
        });
        edge(23, "of each HOUSE that is told the greatest WATER by them is D", () -> {
            TideLodger x = in("house 2;house 40;tide 1;tide 5;tide 3;tide 5;tide 60;");
            row("3 high: with one of two, and any that are lower", of(12, 2, 0), insBy(x, "0 3;"));
            row("1 high: with the third", of(2, 4, 4), insBy(x, "0 1;"));
            row("none: the first alone", of(1, 1, 1), insBy(x, "0 0;"));
            row("58 high: with the last", of(16, 16, 16), insBy(x, "0 58;"));
            row("58 and 20 high", of(16, 16, 16), insBy(x, "0 58;1 20;"));
            row("58 high, and none", of(0, -1, 0), insBy(x, "0 58;1 0;"));
            row("2 high: by no TIDE", of(0, -1, 0), insBy(x, "0 2;"));
        });
        edge(23, "1 the first (least bits; NONE), 2 SURE (bits; 0 without)", () -> {
            TideLodger x = in("house 0;" + "tide 1;".repeat(11) + "tide 9;");
            row("the twelfth", of(2048, 2048, 2048), insBy(x, "0 9;"));
            row("the others", of(2047, 1, 0), insBy(x, "0 1;"));
            row("none", of(0, -1, 0), insBy(x, "0 2;"));
        });
        edge(23, "SURE: TIDES in all of them", () -> {
            TideLodger x = in("house 0;tide 3;tide 9;tide 3;tide 5;");
            row("the second alone can be 9 high", of(8, 2, 2), insBy(x, "0 9;"));
            row("the first or the third, or both", of(3, 1, 0), insBy(x, "0 3;"));
            row("the fourth, and any but the second", of(4, 8, 8), insBy(x, "0 5;"));
        });
        edge(23, "as the sills are now", () -> {
            TideLodger x = in("house 0;tide 4;tide 6;");
            row("4 high", of(1, 1, 1), insBy(x, "0 4;"));
            due(1, "work", work(x, "bag 0;"));
            row("4 high above a bag", of(2, 2, 2), ins(x));
            due(0, "undo", x.undo());
            row("without it", of(1, 1, 1), ins(x));
            tides(x, 1);
            row("whatever came", of(1, 1, 1), ins(x));
        });
        illegalAsks(23, "IN: 0 how many sets, 1 the first (least bits; NONE), 2 SURE (bits; 0 without).", x -> x.in(-1),
                x -> x.in(3), x -> x.in(MIN), x -> x.in(MAX));
    }

    private static void board() {
        String first = "the HOUSE in no line by which, whatever its stain, fewest sets are left at the worst, of these the "
                + "first.";
        edge(24, first, () -> {
            TideLodger x = in("house 9;house 0;house 2;tide 3;tide 5;");
            row("board", of(1, 2), x.board(0), x.board(1));
            due(1, "stains", stains(x, "1 5;"));
            row("with it told", of(0, 2), x.board(0), x.board(1));
            due(2, "stains", stains(x, "1 5;0 0;"));
            row("the last", of(2, 2), x.board(0), x.board(1));
        });
        edge(24, first, () -> {
            TideLodger x = in("house 0;house 40;tide 60;tide 0;tide 60;tide 0;");
            row("60 high at the worst", of(0, 12), x.board(0), x.board(1));
            TideLodger y = in("house 40;tide 0;tide 40;tide 1;");
            row("none at the worst", of(0, 7), y.board(0), y.board(1));
        });
        edge(24, first, () -> {
            TideLodger x = in("house 0;house 1;tide 9;");
            due(1, "stains", stains(x, "0 8;"));
            row("no set is left", of(1, 0), x.board(0), x.board(1));
            row("no TIDE is told", of(0, 0), in("house 0;").board(0), in("house 0;").board(1));
        });
        edge(24, first, () -> {
            TideLodger x = in("house 0;tide 60;tide 60;tide 59;");
            for (int times = 1; times <= 3; times++) {
                row("60 high, asked anew", of(0, 6), x.board(0), x.board(1));
            }
        });
        edge(24, "BOARD: 0 the HOUSE, 1 how many sets are left at the worst; NONE: there is no such HOUSE.", () -> {
            TideLodger x = in("house 0;house 1;tide 9;");
            due(2, "stains", stains(x, "0 9;1 8;"));
            row("all are told", of(-1, -1), x.board(0), x.board(1));
            row("there is none", of(-1, -1), in("tide 9;").board(0), in("tide 9;").board(1));
        });
        edge(24, first, () -> {
            TideLodger x = in("house 8;house 5;house 2;tide 3;tide 6;tide 9;");
            // In HOUSE 0 stains 0 and 1 leave 3 and 4 sets, in HOUSE 1 0, 1, 4 leave 1, 2, 4, in HOUSE 2 so do 1, 4, 7.
            row("all alike at the worst", of(0, 4), x.board(0), x.board(1));
            TideLodger y = in("house 9;house 8;house 5;tide 3;tide 6;tide 9;");
            row("the first of the better ones", of(1, 4), y.board(0), y.board(1));
        });
        edge(24, first, () -> {
            TideLodger x = in("house 0;".repeat(6) + "tide 9;");
            due(5, "stains", stains(x, "0 9;1 9;2 9;3 9;4 9;"));
            row("the sixth", of(5, 1), x.board(0), x.board(1));
            TideLodger y = in("house 2;tide 1;tide 2;tide 4;");
            row("none or 2 high", of(0, 4), y.board(0), y.board(1));
            due(1, "work", work(y, "bag 0;"));
            row("by a bag never more than none", of(0, 7), y.board(0), y.board(1));
        });
        illegalAsks(24, "BOARD: 0 the HOUSE, 1 how many sets are left at the worst; NONE: there is no such HOUSE.",
                x -> x.board(-1), x -> x.board(2), x -> x.board(MIN), x -> x.board(MAX));
    }

    // ---- promises 25 and 26
    private static void drift() {
        String range = "DRIFT (F 1 to 20, n 0 to 24).";
        edge(25, range, () -> {
            TideLodger x = in(LATE);
            row("by n", of(0, 0, 1, 1, -1), x.drift(0, 9, 0), x.drift(0, 9, 11), x.drift(0, 9, 12), x.drift(0, 9, 23),
                    x.drift(0, 9, 24));
            row("by F", of(1, 1, 0, 0), x.drift(0, 1, 12), x.drift(0, 9, 12), x.drift(0, 10, 12), x.drift(0, 20, 24));
        });
        edge(25, range, () -> {
            TideLodger x = in("house 0;house 0;tide 20;");
            row("F 20", of(0, 1, -1), x.drift(0, 20, 0), x.drift(0, 20, 1), x.drift(0, 20, 2));
            TideLodger y = in("house 0;house 0;tide 19;");
            due(0, "F 20", y.drift(0, 20, 24));
        });
        edge(25, "in which HOUSE it is behind the next n TIDES (NONE: GONE)", () -> {
            TideLodger x = in("house 0;".repeat(6) + "tide 1;");
            row("from the first", of(5, -1, -1), x.drift(0, 1, 5), x.drift(0, 1, 6), x.drift(0, 1, 24));
            row("from the last", of(5, -1), x.drift(5, 1, 0), x.drift(5, 1, 1));
            TideLodger y = in("house 0;house 40;tide 1;");
            row("where no TIDE is", of(1, 1), y.drift(0, 1, 24), y.drift(1, 1, 24));
        });
        edge(25, "were one THING more there, down and untied", () -> {
            TideLodger x = in("house 0;house 0;" + "thing 0 1 1 9;".repeat(10) + "tide 1;");
            due(2, "work", work(x, "lift 0;tie 1;"));
            row("an eleventh", of(1, -1), x.drift(0, 1, 1), x.drift(0, 1, 2));
            due(1, "work", work(x, "bag 0;"));
            due(0, "above a bag", x.drift(0, 1, 24));
        });
        missingAsks(25, NO_SUCH, x -> x.drift(3, 1, 0), x -> x.drift(-1, 1, 0), x -> x.drift(3, 0, 25),
                x -> x.drift(MIN, MIN, MIN), x -> x.drift(MAX, MAX, MAX));
        illegalAsks(25, range, x -> x.drift(0, 0, 0), x -> x.drift(0, 21, 0), x -> x.drift(0, 1, -1),
                x -> x.drift(0, 1, 25), x -> x.drift(0, MIN, 0), x -> x.drift(0, MAX, 0), x -> x.drift(0, 1, MIN),
                x -> x.drift(0, 1, MAX));
    }

    private static int[] whences(TideLodger x, int house, int n) {
        return of(x.whence(house, n, 0), x.whence(house, n, 1), x.whence(house, n, 2));
    }

    private static void whence() {
        String range = "WHENCE (n 0 to 24): 0 how many pairs, 1 the HOUSES (bits), 2 the least F (NONE without).";
        edge(26, range, () -> {
            TideLodger x = in(LATE);
            row("to 0 by 0", of(20, 1, 1), whences(x, 0, 0));
            row("to 0 by 12", of(11, 1, 10), whences(x, 0, 12));
            row("to 1 by 12", of(20, 3, 1), whences(x, 1, 12));
            row("to 1 by 23", of(20, 3, 1), whences(x, 1, 23));
            row("to 1 by 24", of(11, 2, 10), whences(x, 1, 24));
        });
        edge(26, "(NONE without)", () -> {
            TideLodger x = in("house 0;house 40;tide 20;");
            row("all float on", of(0, 0, -1), whences(x, 0, 1));
            row("all stay", of(40, 3, 1), whences(x, 1, 1));
            TideLodger y = in("house 0;house 40;tide 19;");
            row("F 20 alone stays", of(1, 1, 20), whences(y, 0, 1));
        });
        edge(26, "pairs of a HOUSE and F (1 to 20) by which DRIFT from there is to that HOUSE", () -> {
            TideLodger x = in("house 0;".repeat(6) + "tide 1;");
            row("by 5", of(20, 33, 1), whences(x, 5, 5));
            row("by 24", of(19, 32, 2), whences(x, 5, 24));
        });
        missingAsks(26, NO_SUCH, x -> x.whence(3, 0, 0), x -> x.whence(-1, 0, 0), x -> x.whence(3, 25, 3),
                x -> x.whence(MIN, MIN, MIN), x -> x.whence(MAX, MAX, MAX));
        illegalAsks(26, range, x -> x.whence(0, -1, 0), x -> x.whence(0, 25, 0), x -> x.whence(0, 0, -1),
                x -> x.whence(0, 0, 3), x -> x.whence(0, MIN, 0), x -> x.whence(0, MAX, 0), x -> x.whence(0, 0, MIN),
                x -> x.whence(0, 0, MAX));
    }

    // ---- what goes for all that is asked
    private static void nothingChanged() {
        String asked = "Asked, nothing stays changed; TIDES go by as by tide (beyond 500, too).";
        Ask[] asks = {x -> x.due(0), x -> x.would(60, 10, 10, 999, 40, 5), x -> x.ahead(60, 0), x -> x.ahead(60, 2),
            x -> x.comes(1), x -> x.spring(0), x -> x.carry(99, 24, 1), x -> x.rent(0, 24), x -> x.rent(9999, 24),
            x -> x.bags(7, 24), x -> x.parlour(12, 8, 0), x -> x.in(0), x -> x.board(1), x -> x.drift(0, 1, 24),
            x -> x.whence(2, 24, 0), x -> x.gain(0, 60, 0), x -> x.share(0, 7, 999), x -> x.soaked(0, 60), x -> x.snaps(0),
            x -> x.fullest(0), x -> x.pays(0, 60), x -> x.neap(0), x -> x.loads(0, 0), x -> x.dearest(0), x -> x.dry(7, 60),
            x -> x.year(5, 96, 16, 20, 1), x -> x.span(5, 20, 96, 8, 20, 2, 0), x -> x.status(0), x -> x.count(1),
            x -> x.fault(), x -> x.height(99), x -> x.find(1, 1)};
        for (int i = 0; i < asks.length; i++) {
            Ask ask = asks[i];
            edge(16, asked, () -> {
                TideLodger x = full();
                TideLodger y = full();
                ask.answer(x);
                ask.answer(x);
                row("refused", of(0, 0), x.status(0), x.status(1));
                alike("asked", x, y);
            });
        }
        edge(16, asked, () -> {
            TideLodger x = full();
            int first = x.ahead(60, 2);
            for (Ask ask : asks) {
                ask.answer(x);
            }
            due(first, "the same answer", x.ahead(60, 2));
        });
    }

    private static void beyondTheLast() {
        String beyond = "TIDES go by as by tide (beyond 500, too).";
        edge(16, beyond, () -> {
            TideLodger x = in("house 0;thing 0 1 1 9;tide 8;tide 4;rent 0;");
            due(1, "work", work(x, "lift 0;"));
            tides(x, 500);
            due(1, "work", work(x, "lower 0;"));
            row("ahead(1)", of(0, 1, 5, 1), aheads(x, 1));
            row("ahead(60)", of(0, 1, 93, 60), aheads(x, 60));
            row("height, comes, spring", of(8, 4, 0, 0, 8), x.height(0), x.height(1), x.comes(0), x.spring(0), x.spring(1));
            row("due, drift, bags", of(5, -1, 4), x.due(0), x.drift(0, 1, 1), x.bags(1, 24));
            due(1, "law", law(x, "tide - 490"));
            row("its number", of(10, 21), x.due(0), x.ahead(2, 2));
            due(1, "law", law(x, "moon"));
            row("500 by 8, and 501", of(4, 9), x.due(0), x.ahead(2, 2));
        });
    }
}
