/** Promises 10 to 38: what is told of HOUSES, THINGS and TIDES, and all that is asked of the TIDES to come. */
public final class AsksTest {
    /**
     * WATER by its TIDES: 1, 0, 0, then 6, 3, 4, none, and 4, 1, 2. In the first four, THING 0 floats on by the second,
     * THING 1 too; THING 2 floats on by the second and is GONE by the fourth; THING 3 stays.
     */
    private static final String STREET = "house 2;house 5;house 4;thing 0 3 2 10;thing 0 4 5 7;thing 1 1 1 1;"
            + "thing 2 9 20 40;tide 3;tide 8;tide 0;tide 6;find 4 8;find 1 16;rent 1;rope 2;";
    private static final String WINDY = "house 0;house 10;thing 0 1 9 9;thing 1 1 20 5;tide 5;rent 0;";

    private AsksTest() { }

    public static void main(String[] args) {
        Check.watch();
        promise10House();
        promise11Thing();
        promise12Height();
        promise13Find();
        promise14Due();
        promise15Would();
        promise16Ahead();
        promise17Comes();
        promise18Spring();
        promise19Carry();
        promise20Rent();
        promise21Bags();
        promise22Parlour();
        promise23In();
        promise24Board();
        promise25Drift();
        promise26Whence();
        promise27Gain();
        promise28Share();
        promise29Soaked();
        promise30Snaps();
        promise31Fullest();
        promise32Pays();
        promise33Neap();
        promise34Loads();
        promise35Dearest();
        promise36Dry();
        promise37Year();
        promise38Span();
        nothingStaysChanged();
        beyondTide500();
        Check.end("AsksTest");
    }

    private static void row(String call, int[] want, int[] got) {
        for (int i = 0; i < want.length; i++) {
            Check.due(want[i], call + " [" + i + "]", got[i]);
        }
    }

    private static int[] houseRow(TideLodger x, int house) {
        return new int[] {x.house(house, 0), x.house(house, 1), x.house(house, 2), x.house(house, 3), x.house(house, 4)};
    }

    private static void promise10House() {
        TideLodger x = Check.in(STREET);
        row("house(0)", new int[] {2, 0, 1, 3, 0}, houseRow(x, 0));
        row("house(1)", new int[] {5, 0, 0, 4, 0}, houseRow(x, 1));
        row("house(2)", new int[] {4, 0, 0, 8, 0}, houseRow(x, 2));
        Check.due(4, "work", Check.work(x, "tide;bag 1;lift 0;bag 1;"));
        row("house(0) by TIDE 1", new int[] {2, 0, 6, 3, 0}, houseRow(x, 0));
        row("house(1) with bags", new int[] {9, 2, 0, 4, 0}, houseRow(x, 1));
        Check.due(2, "work", Check.work(x, "lower 0;tide;"));
        row("house(0) then", new int[] {2, 0, 0, 0, 6}, houseRow(x, 0));
        row("house(1) then", new int[] {9, 2, 0, 7, 0}, houseRow(x, 1));
        row("house(2) then", new int[] {4, 0, 0, 8, 0}, houseRow(x, 2));
        Check.missing("house(3, 0)", () -> x.house(3, 0));
        Check.missing("house(-1, 0)", () -> x.house(-1, 0));
        Check.missing("house(3, 5), the HOUSE ahead", () -> x.house(3, 5));
        Check.illegal("house(0, 5)", () -> x.house(0, 5));
        Check.illegal("house(0, -1)", () -> x.house(0, -1));
    }

    private static int[] thingRow(TideLodger x, int thing) {
        int[] row = new int[7];
        for (int what = 0; what < 7; what++) {
            row[what] = x.thing(thing, what);
        }
        return row;
    }

    private static void promise11Thing() {
        TideLodger x = Check.in(STREET);
        row("thing(0)", new int[] {3, 2, 10, 0, 0, 0, 0}, thingRow(x, 0));
        row("thing(3)", new int[] {9, 20, 40, 2, 0, 0, 0}, thingRow(x, 3));
        Check.due(4, "work", Check.work(x, "tie 0;lift 1;tide;tide;"));
        row("thing(0) tied", new int[] {3, 2, 8, 0, 0, 1, 1}, thingRow(x, 0));
        row("thing(1) up", new int[] {4, 5, 7, 0, 1, 0, 0}, thingRow(x, 1));
        row("thing(2) afloat", new int[] {1, 1, 0, 2, 0, 0, 0}, thingRow(x, 2));
        Check.due(2, "work", Check.work(x, "tide;tide;"));
        row("thing(0), its rope broken", new int[] {3, 2, 7, 0, 0, 0, 0}, thingRow(x, 0));
        row("thing(2) GONE", new int[] {1, 1, 0, -1, 0, 0, 0}, thingRow(x, 2));
        row("thing(3) wet", new int[] {9, 20, 38, 2, 0, 0, 0}, thingRow(x, 3));
        Check.missing("thing(4, 0)", () -> x.thing(4, 0));
        Check.missing("thing(-1, 7)", () -> x.thing(-1, 7));
        Check.illegal("thing(0, 7)", () -> x.thing(0, 7));
        Check.illegal("thing(0, -1)", () -> x.thing(0, -1));
    }

    private static void promise12Height() {
        TideLodger x = Check.in(STREET);
        row("height", new int[] {3, 8, 0, 6, 3, 8}, new int[] {x.height(0), x.height(1), x.height(2), x.height(3),
                x.height(4), x.height(97)});
        Check.due(6, "height(99)", x.height(99));
        Check.due(1, "work", Check.work(x, "tide;"));
        Check.due(3, "height(99), one on", x.height(99));
        Check.due(8, "height(0), one on", x.height(0));
        Check.illegal("height(-1)", () -> x.height(-1));
        Check.illegal("height(100)", () -> x.height(100));
        Check.due(0, "height without TIDES", new TideLodger().height(50));
    }

    private static void promise13Find() {
        TideLodger x = Check.in(STREET);
        row("find", new int[] {4, 8, 1, 16}, new int[] {x.find(0, 0), x.find(0, 1), x.find(1, 0), x.find(1, 1)});
        Check.missing("find(2, 0)", () -> x.find(2, 0));
        Check.missing("find(-1, 2)", () -> x.find(-1, 2));
        Check.illegal("find(0, 2)", () -> x.find(0, 2));
        Check.illegal("find(1, -1)", () -> x.find(1, -1));
    }

    private static int[] dues(TideLodger x) {
        return new int[] {x.due(0), x.due(1), x.due(2)};
    }

    private static void promise14Due() {
        TideLodger x = Check.in(STREET);
        Check.due(1, "law", Check.law(x, "9"));
        row("due, only where it is in", new int[] {9, 0, 0}, dues(x));
        Check.due(1, "work", Check.work(x, "tide;"));
        Check.due(1, "law", Check.law(x, "depth * 10 + lost * 3 + wet"));
        row("due by what is lost and wet", new int[] {68, 34, 41}, dues(x));
        Check.due(1, "law", Check.law(x, "tide * 20 + moon * 5 + rent + house * 8"));
        row("due by TIDE, R and HOUSE", new int[] {26, 34, 42}, dues(x));
        Check.due(1, "law", Check.law(x, "lost * 10 + wet"));
        Check.due(2, "work", Check.work(x, "tie 0;lift 1;"));
        row("tied ones are wet and not lost, upper ones neither", new int[] {1, 11, 1}, dues(x));
        Check.due(1, "law", Check.law(x, "500"));
        row("99 at most", new int[] {99, 99, 99}, dues(x));
        Check.due(1, "law", Check.law(x, "0-1"));
        row("0 at least", new int[] {0, 0, 0}, dues(x));
        Check.missing("due(3)", () -> x.due(3));
        Check.missing("due(-1)", () -> x.due(-1));
        TideLodger y = Check.in("house 0;thing 0 1 1 9;tide 9;rope 1;");
        Check.due(1, "law", Check.law(y, "lost * 10 + wet"));
        Check.due(1, "work", Check.work(y, "tie 0;"));
        Check.due(1, "what a rope breaks for is not lost", y.due(0));
    }

    private static void promise15Would() {
        TideLodger x = Check.in("");
        Check.due(18, "would, usual LAW", x.would(60, 1, 0, 0, 0, 0));
        Check.due(45, "would, usual LAW", x.would(60, 10, 10, 999, 0, 5));
        Check.due(0, "would, usual LAW", x.would(1, 0, 0, 0, 40, 0));
        Check.due(1, "law", Check.law(x, "tide / 100 + moon * 10"));
        Check.due(79, "would, by TIDE 999", x.would(1, 0, 0, 999, 0, 0));
        Check.illegal("depth 0", () -> x.would(0, 0, 0, 0, 0, 0));
        Check.illegal("depth 61", () -> x.would(61, 0, 0, 0, 0, 0));
        Check.illegal("lost -1", () -> x.would(1, -1, 0, 0, 0, 0));
        Check.illegal("lost 11", () -> x.would(1, 11, 0, 0, 0, 0));
        Check.illegal("wet -1", () -> x.would(1, 0, -1, 0, 0, 0));
        Check.illegal("wet 11", () -> x.would(1, 0, 11, 0, 0, 0));
        Check.illegal("tide -1", () -> x.would(1, 0, 0, -1, 0, 0));
        Check.illegal("tide 1000", () -> x.would(1, 0, 0, 1000, 0, 0));
        Check.illegal("rent -1", () -> x.would(1, 0, 0, 0, -1, 0));
        Check.illegal("rent 41", () -> x.would(1, 0, 0, 0, 41, 0));
        Check.illegal("house -1", () -> x.would(1, 0, 0, 0, 0, -1));
        Check.illegal("house 6", () -> x.would(1, 0, 0, 0, 0, 6));
    }

    private static int[] aheads(TideLodger x, int n) {
        return new int[] {x.ahead(n, 0), x.ahead(n, 1), x.ahead(n, 2), x.ahead(n, 3)};
    }

    private static void promise16Ahead() {
        TideLodger x = Check.in(STREET);
        row("ahead(0)", new int[] {58, 0, 0, 0}, aheads(x, 0));
        row("ahead(1)", new int[] {56, 0, 0, 1}, aheads(x, 1));
        row("ahead(2)", new int[] {52, 0, 8, 4}, aheads(x, 2));
        row("ahead(4)", new int[] {49, 1, 10, 7}, aheads(x, 4));
        Check.due(10, "ahead(60, 0)", x.ahead(60, 0));
        Check.due(2, "ahead(60, 1)", x.ahead(60, 1));
        Check.due(105, "ahead(60, 3)", x.ahead(60, 3));
        Check.due(4, "work", Check.work(x, "tide;tide;tide;tide;"));
        row("ahead(0), GONE ones counted", new int[] {49, 1, 0, 0}, aheads(x, 0));
        row("ahead(2), what is paid in them alone", new int[] {46, 1, 2, 4}, aheads(x, 2));
        Check.illegal("ahead(-1, 0)", () -> x.ahead(-1, 0));
        Check.illegal("ahead(61, 0)", () -> x.ahead(61, 0));
        Check.illegal("ahead(1, 4)", () -> x.ahead(1, 4));
        Check.illegal("ahead(1, -1)", () -> x.ahead(1, -1));
    }

    private static void promise17Comes() {
        TideLodger x = Check.in("house 2;house 5;house 6;house 8;tide 3;tide 2;tide 6;tide 8;tide 0;");
        row("comes", new int[] {0, 2, 3, -1}, new int[] {x.comes(0), x.comes(1), x.comes(2), x.comes(3)});
        Check.due(1, "work", Check.work(x, "tide;"));
        row("comes, one on", new int[] {1, 1, 2, -1}, new int[] {x.comes(0), x.comes(1), x.comes(2), x.comes(3)});
        Check.due(1, "work", Check.work(x, "bag 1;"));
        Check.due(2, "comes, with a bag", x.comes(1));
        Check.missing("comes(4)", () -> x.comes(4));
        Check.missing("comes(-1)", () -> x.comes(-1));
        Check.due(-1, "comes without TIDES", Check.in("house 0;").comes(0));
    }

    private static void promise18Spring() {
        TideLodger x = Check.in(STREET);
        Check.due(1, "spring(0)", x.spring(0));
        Check.due(8, "spring(1)", x.spring(1));
        Check.due(2, "work", Check.work(x, "tide;tide;"));
        Check.due(3, "spring(0), two on", x.spring(0));
        Check.due(8, "spring(1), two on", x.spring(1));
        Check.illegal("spring(2)", () -> x.spring(2));
        Check.illegal("spring(-1)", () -> x.spring(-1));
        TideLodger y = Check.in("tide 4;tide 9;tide 9;");
        Check.due(1, "the first of the highest", y.spring(0));
    }

    private static int[] carried(TideLodger x, int c, int n) {
        return new int[] {x.carry(c, n, 0), x.carry(c, n, 1)};
    }

    private static void promise19Carry() {
        TideLodger x = Check.in(STREET);
        row("carry(0, 4)", new int[] {49, 0}, carried(x, 0, 4));
        row("carry(3, 4)", new int[] {52, 1}, carried(x, 3, 4));
        row("carry(4, 4)", new int[] {53, 5}, carried(x, 4, 4));
        row("carry(7, 4)", new int[] {55, 3}, carried(x, 7, 4));
        row("carry(8, 4)", new int[] {56, 7}, carried(x, 8, 4));
        row("carry(16, 4)", new int[] {57, 11}, carried(x, 16, 4));
        row("carry(17, 4)", new int[] {58, 15}, carried(x, 17, 4));
        row("carry(99, 24), no more than all", new int[] {58, 15}, carried(x, 99, 24));
        row("carry(4, 1), of alike ones the least", new int[] {57, 1}, carried(x, 4, 1));
        row("carry(99, 0)", new int[] {58, 0}, carried(x, 99, 0));
        Check.due(2, "work", Check.work(x, "tie 0;lift 1;"));
        row("carry(99, 4), tied and upper ones stay", new int[] {55, 12}, carried(x, 99, 4));
        Check.illegal("carry(-1, 0, 0)", () -> x.carry(-1, 0, 0));
        Check.illegal("carry(100, 0, 0)", () -> x.carry(100, 0, 0));
        Check.illegal("carry(0, -1, 0)", () -> x.carry(0, -1, 0));
        Check.illegal("carry(0, 25, 0)", () -> x.carry(0, 25, 0));
        Check.illegal("carry(0, 0, 2)", () -> x.carry(0, 0, 2));
        Check.illegal("carry(0, 0, -1)", () -> x.carry(0, 0, -1));
        TideLodger y = Check.in("house 0;thing 0 1 1 9;thing 0 2 9 5;tide 3;");
        Check.due(1, "work", Check.work(y, "tide;"));
        row("carry(9, 3), GONE ones are not there", new int[] {4, 2}, carried(y, 9, 3));
    }

    private static void promise20Rent() {
        TideLodger x = Check.in(STREET);
        row("rent by 4", new int[] {0, 1, 1, 2, 2, 3, 4, 5, 6, 7}, new int[] {x.rent(15, 4), x.rent(14, 4),
                x.rent(10, 4), x.rent(9, 4), x.rent(7, 4), x.rent(4, 4), x.rent(3, 4), x.rent(2, 4), x.rent(1, 4),
                x.rent(0, 4)});
        Check.due(0, "rent(0, 0)", x.rent(0, 0));
        Check.due(0, "rent(9999, 24)", x.rent(9999, 24));
        Check.due(1, "law", Check.law(x, "5"));
        Check.due(0, "rent(35, 4)", x.rent(35, 4));
        Check.due(-1, "rent(34, 4)", x.rent(34, 4));
        Check.due(1, "law", Check.law(x, "40 - rent"));
        Check.due(40, "rent(0, 4)", x.rent(0, 4));
        Check.due(1, "law", Check.law(x, "41 - rent"));
        Check.due(-1, "rent(0, 4)", x.rent(0, 4));
        Check.due(40, "rent(7, 4)", x.rent(7, 4));
        Check.due(4, "work", Check.work(x, "tide;tide;tide;tide;"));
        Check.due(40, "rent(7, 4), what was paid not counted", x.rent(7, 4));
        Check.due(1, "R is as it was", x.told(6));
        Check.illegal("rent(-1, 0)", () -> x.rent(-1, 0));
        Check.illegal("rent(10000, 0)", () -> x.rent(10000, 0));
        Check.illegal("rent(0, -1)", () -> x.rent(0, -1));
        Check.illegal("rent(0, 25)", () -> x.rent(0, 25));
    }

    private static void promise21Bags() {
        TideLodger x = Check.in(STREET);
        row("bags", new int[] {7, 3, 2, 2, 1, 0, 0, 0}, new int[] {x.bags(7, 4), x.bags(1, 4), x.bags(2, 4), x.bags(4, 4),
                x.bags(7, 1), x.bags(6, 1), x.bags(0, 24), x.bags(7, 0)});
        Check.due(2, "work", Check.work(x, "bag 0;bag 1;"));
        Check.due(5, "bags more", x.bags(7, 4));
        Check.illegal("bags(8, 1)", () -> x.bags(8, 1));
        Check.illegal("bags(-1, 1)", () -> x.bags(-1, 1));
        Check.illegal("bags(0, -1)", () -> x.bags(0, -1));
        Check.illegal("bags(0, 25)", () -> x.bags(0, 25));
        TideLodger y = Check.in("house 0;house 1;house 40;tide 19;");
        row("nine at most", new int[] {-1, 9, 0, -1, 9}, new int[] {y.bags(1, 1), y.bags(2, 1), y.bags(4, 1), y.bags(7, 1),
                y.bags(6, 1)});
        Check.due(9, "work", Check.work(y, "again 9[bag 1;];"));
        Check.due(0, "nine are there and enough", y.bags(2, 1));
        TideLodger z = Check.in("house 0;tide 18;tide 20;");
        Check.due(9, "bags(1, 1)", z.bags(1, 1));
        Check.due(-1, "bags(1, 2)", z.bags(1, 2));
        Check.due(2, "work", Check.work(z, "bag 0;bag 0;"));
        Check.due(7, "seven more", z.bags(1, 1));
        Check.due(-1, "not eight more", z.bags(1, 2));
        Check.illegal("bags(2, 1)", () -> z.bags(2, 1));
    }

    private static int[] rests(int k, int q) {
        TideLodger x = new TideLodger();
        return new int[] {x.parlour(k, q, 0), x.parlour(k, q, 1), x.parlour(k, q, 2)};
    }

    private static void promise22Parlour() {
        row("parlour(0, 5)", new int[] {1, 0, 0}, rests(0, 5));
        row("parlour(1, 8)", new int[] {1, 101, 16}, rests(1, 8));
        // (0, 1) and (1, 1): where the sea wins no hour, it has nothing by another claim either.
        row("parlour(1, 0)", new int[] {2, 1, 16}, rests(1, 0));
        row("parlour(1, 16)", new int[] {2, 100, 16}, rests(1, 16));
        row("parlour(2, 8)", new int[] {2, 101, 32}, rests(2, 8));
        row("parlour(3, 0)", new int[] {5, 3, 48}, rests(3, 0));
        row("parlour(5, 3)", new int[] {5, 104, 80}, rests(5, 3));
        row("parlour(7, 16)", new int[] {9, 106, 112}, rests(7, 16));
        row("parlour(12, 8)", new int[] {12, 111, 192}, rests(12, 8));
        TideLodger x = new TideLodger();
        Check.illegal("parlour(-1, 0, 0)", () -> x.parlour(-1, 0, 0));
        Check.illegal("parlour(13, 0, 0)", () -> x.parlour(13, 0, 0));
        Check.illegal("parlour(0, -1, 0)", () -> x.parlour(0, -1, 0));
        Check.illegal("parlour(0, 17, 0)", () -> x.parlour(0, 17, 0));
        Check.illegal("parlour(0, 0, 3)", () -> x.parlour(0, 0, 3));
        Check.illegal("parlour(0, 0, -1)", () -> x.parlour(0, 0, -1));
    }

    private static int[] ins(TideLodger x) {
        return new int[] {x.in(0), x.in(1), x.in(2), x.board(0), x.board(1)};
    }

    private static int[] insBy(TideLodger x, String lines) {
        Check.due(lines.split(";").length, "stains " + lines, Check.stains(x, lines));
        return ins(x);
    }

    private static void promise23In() {
        TideLodger x = Check.in(STREET);
        row("without lines", new int[] {15, 1, 0, 0, 8}, ins(x));
        row("by 1 0", new int[] {3, 1, 0, 0, 2}, insBy(x, "1 0;"));
        row("by 0 1", new int[] {2, 1, 1, 1, 2}, insBy(x, "0 1;"));
        row("by 0 6, 1 3", new int[] {8, 2, 2, 2, 8}, insBy(x, "0 6;1 3;"));
        row("by 0 6, 1 1", new int[] {0, -1, 0, 2, 0}, insBy(x, "0 6;1 1;"));
        row("by all", new int[] {8, 2, 2, -1, -1}, insBy(x, "2 4;0 6;1 3;"));
        row("by 0 4", new int[] {4, 8, 8, 1, 4}, insBy(x, "0 4;"));
        Check.due(1, "work", Check.work(x, "bag 0;"));
        Check.due(8, "as the sills are now", x.in(0));
        Check.due(2, "the first", x.in(1));
        Check.due(1, "work", Check.work(x, "tide;"));
        Check.due(8, "told TIDES, whatever came", x.in(0));
        TideLodger y = Check.in("house 3;tide 5;tide 5;tide 2;");
        row("alike TIDES", new int[] {6, 1, 0, -1, -1}, insBy(y, "0 2;"));
        row("none came in the HOUSE", new int[] {1, 4, 4, -1, -1}, insBy(y, "0 0;"));
        Check.due(0, "stains", y.stains(0));
        row("all sets", new int[] {7, 1, 0, 0, 6}, ins(y));
        Check.due(4095, "twelve TIDES", Check.in("tide 60;".repeat(12)).in(0));
        Check.due(1, "SURE of one TIDE", Check.in("tide 3;").in(2));
        row("no TIDES", new int[] {0, -1, 0, 0, 0}, ins(Check.in("house 0;")));
        Check.illegal("in(3)", () -> x.in(3));
        Check.illegal("in(-1)", () -> x.in(-1));
    }

    private static void promise24Board() {
        TideLodger x = Check.in("house 9;house 0;house 2;tide 3;tide 5;");
        row("the fewest, then the first", new int[] {3, 1, 0, 1, 2}, ins(x));
        row("with it told", new int[] {2, 2, 2, 0, 2}, insBy(x, "1 5;"));
        row("with others told", new int[] {3, 1, 0, 1, 2}, insBy(x, "0 0;"));
        TideLodger z = Check.in("house 0;house 40;tide 60;tide 0;tide 60;tide 0;");
        row("up to 60 high, down to 0", new int[] {15, 1, 0, 0, 12}, ins(z));
        row("60 high", new int[] {12, 1, 0, 1, 12}, insBy(z, "0 60;"));
        row("0 high", new int[] {3, 2, 0, 1, 3}, insBy(z, "0 0;"));
        TideLodger y = new TideLodger();
        Check.due(-1, "no HOUSE", y.board(0));
        Check.due(-1, "no HOUSE", y.board(1));
        Check.illegal("board(2)", () -> y.board(2));
        Check.illegal("board(-1)", () -> y.board(-1));
    }

    private static void promise25Drift() {
        TideLodger x = Check.in(STREET);
        int[] two = new int[9];
        int[] one = new int[5];
        for (int n = 0; n < 9; n++) {
            two[n] = x.drift(0, 2, n);
            one[n % 5] = n < 5 ? x.drift(0, 1, n) : one[n % 5];
        }
        row("drift(0, 2)", new int[] {0, 0, 1, 1, 1, 1, 2, 2, -1}, two);
        row("drift(0, 1)", new int[] {0, 1, 2, 2, -1}, one);
        Check.due(2, "drift(2, 5, 24)", x.drift(2, 5, 24));
        Check.due(0, "drift(0, 7, 24)", x.drift(0, 7, 24));
        Check.due(1, "drift(0, 6, 24)", x.drift(0, 6, 24));
        Check.due(0, "drift(0, 20, 24)", x.drift(0, 20, 24));
        Check.due(2, "work", Check.work(x, "bag 0;tide;"));
        Check.due(0, "drift(0, 5, 1), with a bag", x.drift(0, 5, 1));
        Check.due(1, "drift(0, 4, 1), with a bag", x.drift(0, 4, 1));
        Check.missing("drift(3, 0, 25)", () -> x.drift(3, 0, 25));
        Check.missing("drift(-1, 1, 0)", () -> x.drift(-1, 1, 0));
        Check.illegal("drift(0, 0, 0)", () -> x.drift(0, 0, 0));
        Check.illegal("drift(0, 21, 0)", () -> x.drift(0, 21, 0));
        Check.illegal("drift(0, 1, -1)", () -> x.drift(0, 1, -1));
        Check.illegal("drift(0, 1, 25)", () -> x.drift(0, 1, 25));
    }

    private static int[] whences(TideLodger x, int house, int n) {
        return new int[] {x.whence(house, n, 0), x.whence(house, n, 1), x.whence(house, n, 2)};
    }

    private static void promise26Whence() {
        TideLodger x = Check.in(STREET);
        row("whence(0, 2)", new int[] {14, 1, 7}, whences(x, 0, 2));
        row("whence(1, 2)", new int[] {22, 3, 2}, whences(x, 1, 2));
        row("whence(2, 2)", new int[] {20, 7, 1}, whences(x, 2, 2));
        row("whence(1, 0)", new int[] {20, 2, 1}, whences(x, 1, 0));
        TideLodger y = Check.in("house 0;house 40;tide 30;");
        row("whence of none", new int[] {0, 0, -1}, whences(y, 0, 1));
        row("whence of all", new int[] {40, 3, 1}, whences(y, 1, 1));
        Check.missing("whence(3, 99, 9)", () -> x.whence(3, 99, 9));
        Check.missing("whence(-1, 0, 0)", () -> x.whence(-1, 0, 0));
        Check.illegal("whence(0, -1, 0)", () -> x.whence(0, -1, 0));
        Check.illegal("whence(0, 25, 0)", () -> x.whence(0, 25, 0));
        Check.illegal("whence(0, 0, 3)", () -> x.whence(0, 0, 3));
        Check.illegal("whence(0, 0, -1)", () -> x.whence(0, 0, -1));
    }

    private static int[] gains(TideLodger x, int house, int n) {
        return new int[] {x.gain(house, n, 0), x.gain(house, n, 1)};
    }

    private static void promise27Gain() {
        TideLodger x = Check.in(STREET);
        row("gain(0, 4)", new int[] {9, 1}, gains(x, 0, 4));
        row("gain(1, 4)", new int[] {6, 1}, gains(x, 1, 4));
        row("gain(1, 1)", new int[] {0, 1}, gains(x, 1, 1));
        row("gain(0, 0)", new int[] {0, 1}, gains(x, 0, 0));
        TideLodger y = Check.in("house 0;tide 1;find 3 1;find 1 1;");
        row("gain 4 of 16", new int[] {1, 4}, gains(y, 0, 1));
        row("gain 8 of 16", new int[] {1, 2}, gains(y, 0, 2));
        row("gain 12 of 16", new int[] {3, 4}, gains(y, 0, 3));
        row("gain 16 of 16", new int[] {1, 1}, gains(y, 0, 4));
        row("gain 240 of 16", new int[] {15, 1}, gains(y, 0, 60));
        row("gain 3 of 16", new int[] {3, 16}, gains(Check.in("house 0;tide 1;find 3 1;"), 0, 1));
        row("gain without FINDS", new int[] {0, 1}, gains(Check.in("house 0;tide 1;"), 0, 60));
        Check.missing("gain(3, 61, 2)", () -> x.gain(3, 61, 2));
        Check.missing("gain(-1, 0, 0)", () -> x.gain(-1, 0, 0));
        Check.illegal("gain(0, -1, 0)", () -> x.gain(0, -1, 0));
        Check.illegal("gain(0, 61, 0)", () -> x.gain(0, 61, 0));
        Check.illegal("gain(0, 0, 2)", () -> x.gain(0, 0, 2));
        Check.illegal("gain(0, 0, -1)", () -> x.gain(0, 0, -1));
    }

    private static int[] shares(TideLodger x, int houses, int n) {
        return new int[] {x.share(0, houses, n), x.share(1, houses, n), x.share(2, houses, n)};
    }

    private static void promise28Share() {
        TideLodger x = Check.in(STREET);
        row("share of nothing paid", new int[] {0, 0, 0}, shares(x, 7, 999));
        Check.due(2, "work", Check.work(x, "tide;tide;"));
        row("share of 999", new int[] {6, 2, 0}, shares(x, 7, 999));
        row("share of 8", new int[] {6, 2, 0}, shares(x, 7, 8));
        row("share of 7", new int[] {5, 2, 0}, shares(x, 7, 7));
        row("share of 5", new int[] {3, 2, 0}, shares(x, 7, 5));
        row("share of 4", new int[] {2, 2, 0}, shares(x, 7, 4));
        row("share of 3, one is left", new int[] {1, 1, 0}, shares(x, 7, 3));
        row("share of 1", new int[] {0, 0, 0}, shares(x, 7, 1));
        row("share of 0", new int[] {0, 0, 0}, shares(x, 7, 0));
        row("share among the first", new int[] {4, 0, 0}, shares(x, 1, 4));
        row("share among the last two", new int[] {0, 2, 0}, shares(x, 6, 4));
        row("share among none", new int[] {0, 0, 0}, shares(x, 0, 4));
        Check.missing("share(3, 9, -1)", () -> x.share(3, 9, -1));
        Check.missing("share(-1, 0, 0)", () -> x.share(-1, 0, 0));
        Check.illegal("share(0, 8, 0)", () -> x.share(0, 8, 0));
        Check.illegal("share(0, -1, 0)", () -> x.share(0, -1, 0));
        Check.illegal("share(0, 0, -1)", () -> x.share(0, 0, -1));
        Check.illegal("share(0, 0, 1000)", () -> x.share(0, 0, 1000));
        TideLodger y = Check.in("house 0;house 0;tide 1;");
        Check.due(1, "law", Check.law(y, "99 - house * 89"));
        Check.due(20, "work", Check.work(y, "again 20[tide;];"));
        Check.due(799, "share(0, 3, 999)", y.share(0, 3, 999));
        Check.due(200, "share(1, 3, 999)", y.share(1, 3, 999));
        Check.due(999, "share(0, 1, 999)", y.share(0, 1, 999));
    }

    private static void promise29Soaked() {
        TideLodger x = Check.in(STREET);
        row("soaked", new int[] {0, 3, 2, 2, 30, 1}, new int[] {x.soaked(0, 0), x.soaked(0, 4), x.soaked(3, 4),
                x.soaked(2, 60), x.soaked(3, 60), x.soaked(0, 1)});
        Check.due(1, "work", Check.work(x, "lift 3;"));
        Check.due(0, "up", x.soaked(3, 60));
        Check.due(1, "work", Check.work(x, "tie 0;"));
        Check.due(3, "tied", x.soaked(0, 4));
        Check.missing("soaked(4, 61)", () -> x.soaked(4, 61));
        Check.missing("soaked(-1, 0)", () -> x.soaked(-1, 0));
        Check.illegal("soaked(0, -1)", () -> x.soaked(0, -1));
        Check.illegal("soaked(0, 61)", () -> x.soaked(0, 61));
        TideLodger y = Check.in("house 0;thing 0 1 9 0;thing 0 1 1 0;tide 1;");
        Check.due(60, "without any WORTH", y.soaked(0, 60));
        Check.due(1, "work", Check.work(y, "tide;"));
        Check.due(0, "GONE", y.soaked(1, 60));
    }

    private static void promise30Snaps() {
        TideLodger x = Check.in(STREET);
        Check.due(-1, "not tied", x.snaps(0));
        Check.due(2, "work", Check.work(x, "tie 0;tie 3;"));
        Check.due(3, "snaps(0)", x.snaps(0));
        Check.due(-1, "it never pulls", x.snaps(3));
        Check.due(2, "work", Check.work(x, "tide;tide;"));
        Check.due(1, "worn by one", x.snaps(0));
        Check.due(2, "work", Check.work(x, "tide;tide;"));
        Check.due(-1, "broken", x.snaps(0));
        String late = "house 0;thing 0 1 1 1;" + "tide 0;".repeat(11) + "tide 9;rope ";
        TideLodger y = Check.in(late + "5;");
        Check.due(1, "work", Check.work(y, "tie 0;"));
        Check.due(59, "the last of 60", y.snaps(0));
        TideLodger z = Check.in(late + "6;");
        Check.due(1, "work", Check.work(z, "tie 0;"));
        Check.due(-1, "none of 60", z.snaps(0));
        Check.due(11, "work", Check.work(z, "again 11[tide;];"));
        Check.due(-1, "the 61st", z.snaps(0));
        Check.due(1, "work", Check.work(z, "tide;"));
        Check.due(59, "one on", z.snaps(0));
        Check.missing("snaps(4)", () -> x.snaps(4));
        Check.missing("snaps(-1)", () -> x.snaps(-1));
    }

    private static void promise31Fullest() {
        TideLodger x = Check.in(STREET);
        Check.due(0, "fullest(0)", x.fullest(0));
        Check.due(2, "fullest(1)", x.fullest(1));
        Check.due(3, "work", Check.work(x, "tide;tide;lift 0;"));
        Check.due(1, "of alike ones the first", x.fullest(0));
        Check.due(2, "up and down", x.fullest(1));
        TideLodger y = Check.in("house 0;thing 0 1 1 1;tide 1;");
        Check.due(1, "work", Check.work(y, "tide;"));
        Check.due(-1, "all GONE", y.fullest(0));
        Check.due(-1, "all GONE", y.fullest(1));
        Check.due(-1, "no HOUSE", new TideLodger().fullest(0));
        Check.illegal("fullest(2)", () -> x.fullest(2));
        Check.illegal("fullest(-1)", () -> x.fullest(-1));
    }

    private static void promise32Pays() {
        TideLodger x = Check.in(STREET);
        row("pays", new int[] {6, 2, 2, 0, 0, 6}, new int[] {x.pays(0, 4), x.pays(1, 4), x.pays(2, 4), x.pays(0, 0),
                x.pays(0, 1), x.pays(0, 2)});
        Check.due(2, "work", Check.work(x, "tide;tide;"));
        Check.due(0, "in the next alone", x.pays(0, 2));
        Check.due(2, "in the next alone", x.pays(2, 2));
        Check.missing("pays(3, 61)", () -> x.pays(3, 61));
        Check.missing("pays(-1, 0)", () -> x.pays(-1, 0));
        Check.illegal("pays(0, -1)", () -> x.pays(0, -1));
        Check.illegal("pays(0, 61)", () -> x.pays(0, 61));
        TideLodger y = Check.in("house 0;tide 60;");
        Check.due(1, "law", Check.law(y, "99"));
        Check.due(5940, "pays(0, 60)", y.pays(0, 60));
    }

    private static int[] neaps(TideLodger x) {
        return new int[] {x.neap(0), x.neap(1)};
    }

    private static void promise33Neap() {
        row("neap", new int[] {1, 2}, neaps(Check.in(STREET)));
        row("neap, the first of the longest", new int[] {2, 3},
                neaps(Check.in("house 4;house 2;tide 1;tide 3;tide 9;tide 2;tide 0;tide 3;tide 1;tide 2;tide 3;")));
        row("neap of none", new int[] {0, -1}, neaps(Check.in("house 0;tide 1;")));
        row("neap of all", new int[] {60, 0}, neaps(Check.in("house 9;tide 9;")));
        row("neap without HOUSES", new int[] {60, 0}, neaps(Check.in("tide 9;")));
        // Five rows of twelve: the last one is cut at TIDE 60.
        TideLodger x = Check.in("house 0;tide 0;tide 9;" + "tide 0;".repeat(10));
        row("neap over the end of what is told", new int[] {11, 2}, neaps(x));
        Check.illegal("neap(2)", () -> x.neap(2));
        Check.illegal("neap(-1)", () -> x.neap(-1));
    }

    private static void promise34Loads() {
        TideLodger x = Check.in(STREET);
        row("loads", new int[] {7, 0, 1, 9}, new int[] {x.loads(0, 0), x.loads(0, 1), x.loads(1, 0), x.loads(2, 0)});
        Check.due(2, "work", Check.work(x, "lift 0;tie 1;"));
        row("loads then", new int[] {4, 3}, new int[] {x.loads(0, 0), x.loads(0, 1)});
        Check.due(4, "work", Check.work(x, "tide;tide;tide;tide;"));
        row("loads with one GONE", new int[] {4, 3, 0, 9}, new int[] {x.loads(0, 0), x.loads(0, 1), x.loads(1, 0),
                x.loads(2, 0)});
        Check.missing("loads(3, 2)", () -> x.loads(3, 2));
        Check.missing("loads(-1, 0)", () -> x.loads(-1, 0));
        Check.illegal("loads(0, 2)", () -> x.loads(0, 2));
        Check.illegal("loads(0, -1)", () -> x.loads(0, -1));
    }

    private static void promise35Dearest() {
        TideLodger x = Check.in(STREET);
        Check.due(-1, "nothing was paid", x.dearest(0));
        Check.due(-1, "nothing was paid", x.dearest(1));
        Check.due(2, "work", Check.work(x, "tide;tide;"));
        Check.due(0, "dearest(0)", x.dearest(0));
        Check.due(6, "dearest(1)", x.dearest(1));
        TideLodger y = Check.in("house 40;house 3;house 3;tide 9;");
        Check.due(1, "law", Check.law(y, "depth"));
        Check.due(1, "work", Check.work(y, "tide;"));
        Check.due(1, "of alike ones the first", y.dearest(0));
        Check.due(6, "how much", y.dearest(1));
        Check.illegal("dearest(2)", () -> x.dearest(2));
        Check.illegal("dearest(-1)", () -> x.dearest(-1));
    }

    private static void promise36Dry() {
        TideLodger x = Check.in(STREET);
        row("dry", new int[] {1, 2, 2, 4, 1, 2, 0, 15}, new int[] {x.dry(1, 4), x.dry(2, 4), x.dry(4, 4), x.dry(0, 4),
                x.dry(7, 4), x.dry(6, 4), x.dry(0, 0), x.dry(7, 60)});
        Check.due(1, "work", Check.work(x, "tide;"));
        Check.due(0, "dry(7, 1)", x.dry(7, 1));
        Check.illegal("dry(8, 1)", () -> x.dry(8, 1));
        Check.illegal("dry(-1, 1)", () -> x.dry(-1, 1));
        Check.illegal("dry(0, -1)", () -> x.dry(0, -1));
        Check.illegal("dry(0, 61)", () -> x.dry(0, 61));
    }

    private static int[] years(TideLodger x, int seed, int tides, int q, int k) {
        return new int[] {x.year(seed, tides, q, k, 0), x.year(seed, tides, q, k, 1), x.year(seed, tides, q, k, 2),
                x.year(seed, tides, q, k, 3)};
    }

    private static void promise37Year() {
        TideLodger x = Check.in(WINDY);
        // SEED 2 draws 12, 1, 15, 2, 13, 7, 8, 9.
        row("year(2, 4, 8, 7)", new int[] {9, 11, 0, 2}, years(x, 2, 4, 8, 7));
        row("year(2, 1, 8, 7)", new int[] {13, 1, 0, 0}, years(x, 2, 1, 8, 7));
        row("year(2, 2, 16, 20)", new int[] {3, 24, 1, 2}, years(x, 2, 2, 16, 20));
        Check.due(3, "winds below 8", x.year(2, 8, 8, 0, 3));
        Check.due(4, "winds below 9", x.year(2, 8, 9, 0, 3));
        Check.due(0, "winds below 0", x.year(0, 96, 0, 20, 3));
        Check.due(1, "winds below 1, a DRAW of 0", x.year(0, 8, 1, 20, 3));
        Check.due(96, "winds below 16", x.year(-1, 96, 16, 20, 3));
        // SEED -1 draws 9, 9, 6, 14, 9, 2, 8, 15, 0, 14.
        Check.due(3, "winds of SEED -1", x.year(-1, 10, 7, 0, 3));
        row("no more than K", new int[] {4, 0, 0, 0}, years(Check.in("house 5;thing 0 1 1 4;tide 5;"), 0, 9, 0, 20));
        Check.due(2, "work", Check.work(x, "lift 0;tide;"));
        row("year from here", new int[] {14, 1, 0, 0}, years(x, 2, 1, 8, 7));
        Check.illegal("year of 0", () -> x.year(0, 0, 0, 0, 0));
        Check.illegal("year of 97", () -> x.year(0, 97, 0, 0, 0));
        Check.illegal("Q -1", () -> x.year(0, 1, -1, 0, 0));
        Check.illegal("Q 17", () -> x.year(0, 1, 17, 0, 0));
        Check.illegal("K -1", () -> x.year(0, 1, 0, -1, 0));
        Check.illegal("K 21", () -> x.year(0, 1, 0, 21, 0));
        Check.illegal("what 4", () -> x.year(0, 1, 0, 0, 4));
        Check.illegal("what -1", () -> x.year(0, 1, 0, 0, -1));
    }

    private static void promise38Span() {
        TideLodger x = Check.in(WINDY);
        // SEED 2 draws 12, 1; SEED 3 draws 3, 3: by two winds one behind the other THING 0 is GONE.
        row("span of 2 and 3", new int[] {0, 1, 1, 2}, new int[] {x.span(2, 2, 2, 8, 20, 0, 0),
                x.span(2, 2, 2, 8, 20, 1, 1), x.span(2, 2, 2, 8, 20, 2, 0), x.span(2, 2, 2, 8, 20, 2, 1)});
        row("span of 3", new int[] {1, 1, 0, 1}, new int[] {x.span(3, 1, 2, 8, 20, 0, 0), x.span(3, 1, 2, 8, 20, 1, 0),
                x.span(3, 1, 2, 8, 20, 2, 0), x.span(3, 1, 2, 8, 20, 2, 1)});
        // Behind SEED 2147483647 (9, 9) comes SEED -2147483648 (0, 12).
        row("span over the wrap", new int[] {0, 1, 1}, new int[] {x.span(2147483647, 2, 2, 10, 20, 0, 0),
                x.span(2147483647, 2, 2, 10, 20, 1, 0), x.span(2147483647, 2, 2, 10, 20, 2, 0)});
        Check.due(20, "many SEEDS", x.span(0, 20, 96, 0, 20, 2, 0));
        Check.illegal("no such THING", () -> x.span(0, 1, 1, 0, 0, 2, 2));
        Check.illegal("no such THING, what 0", () -> x.span(0, 1, 1, 0, 0, 0, 2));
        Check.illegal("no such THING, what 1", () -> x.span(0, 1, 1, 0, 0, 1, -1));
        Check.illegal("many 0", () -> x.span(0, 0, 1, 0, 0, 0, 0));
        Check.illegal("many 21", () -> x.span(0, 21, 1, 0, 0, 0, 0));
        Check.illegal("tides 0", () -> x.span(0, 1, 0, 0, 0, 0, 0));
        Check.illegal("tides 97", () -> x.span(0, 1, 97, 0, 0, 0, 0));
        Check.illegal("Q 17", () -> x.span(0, 1, 1, 17, 0, 0, 0));
        Check.illegal("K 21", () -> x.span(0, 1, 1, 0, 21, 0, 0));
        Check.illegal("what 3", () -> x.span(0, 1, 1, 0, 0, 3, 0));
        Check.illegal("what -1", () -> x.span(0, 1, 1, 0, 0, -1, 0));
    }

    private static void nothingStaysChanged() {
        TideLodger x = Check.in(STREET);
        Check.due(2, "work", Check.work(x, "tie 0;lift 1;"));
        askAll(x);
        for (int thing = 0; thing < 4; thing++) {
            row("thing " + thing, new int[][] {{3, 2, 10, 0, 0, 1, 0}, {4, 5, 7, 0, 1, 0, 0}, {1, 1, 1, 1, 0, 0, 0},
                    {9, 20, 40, 2, 0, 0, 0}}[thing], thingRow(x, thing));
        }
        Check.due(0, "TIDES", x.told(4));
        Check.due(0, "paid", x.told(11));
        Check.due(1, "WORKS", x.count(2));
    }

    private static void askAll(TideLodger x) {
        x.ahead(60, 0);
        x.carry(99, 24, 1);
        x.rent(0, 24);
        x.bags(7, 24);
        x.drift(0, 1, 24);
        x.soaked(0, 60);
        x.snaps(0);
        x.pays(0, 60);
        x.year(1, 96, 16, 20, 0);
        x.span(1, 20, 96, 16, 20, 2, 0);
        x.due(0);
    }

    private static void beyondTide500() {
        TideLodger x = Check.in("house 0;thing 0 1 1 9;tide 8;rent 0;");
        Check.due(1, "work", Check.work(x, "lift 0;"));
        for (int i = 0; i < 5; i++) {
            Check.due(100, "work", Check.work(x, "again 10[tide;tide;tide;tide;tide;tide;tide;tide;tide;tide;];"));
        }
        Check.due(1, "the last THING comes down", Check.work(x, "tide;lower 0;"));
        Check.due(500, "TIDES", x.told(4));
        row("ahead(60) goes by, beyond 500 too", new int[] {0, 1, 123, 60}, aheads(x, 60));
        Check.due(5, "due(0)", x.due(0));
        Check.due(1, "soaked(0, 60)", x.soaked(0, 60));
        Check.due(-1, "drift(0, 8, 1)", x.drift(0, 8, 1));
        row("year(0, 96, 0, 0)", new int[] {0, 195, 1, 0}, years(x, 0, 96, 0, 0));
        Check.due(1, "law", Check.law(x, "tide - 490"));
        Check.due(10, "the number of the TIDE goes on", x.due(0));
        Check.due(21, "the number of the TIDE goes on", x.pays(0, 2));
        Check.due(1, "law", Check.law(x, "moon"));
        Check.due(4, "500 by 8", x.due(0));
    }
}
