/** Promises 1 to 9 and 39 to 42: the TAPE, the texts and their FAULTS, WORK, undoing, IMAGES, what is counted. */
public final class TextsTest {
    private TextsTest() { }

    public static void main(String[] args) {
        Check.watch();
        promise1NewObject();
        promise2Feed();
        promise3Street();
        promise3Clauses();
        promise3Faults();
        promise3TooMany();
        promise4Law();
        promise4LawFaults();
        promise5Work();
        promise5FullStreet();
        promise5Ends();
        promise5Agains();
        promise5WorkFaults();
        promise5FullOfWorks();
        promise6Stains();
        promise7Fault();
        promise8Undo();
        promise9Told();
        promise39And40Images();
        promise41Status();
        promise42Count();
        Check.end("TextsTest");
    }

    private static void promise1NewObject() {
        TideLodger x = new TideLodger();
        for (int what = 0; what < 12; what++) {
            Check.due(what == 6 ? 10 : 0, "new told(" + what + ")", x.told(what));
        }
        Check.due(-1, "new fault()", x.fault());
        Check.due(-1, "new undo()", x.undo());
        Check.due(-1, "new restore()", x.restore());
        Check.due(0, "new count(1)", x.count(1));
        Check.due(3, "the usual LAW", x.would(8, 1, 0, 0, 2, 0));
        Check.due(0, "street(0) of an empty TAPE", x.street(0));
    }

    private static void promise2Feed() {
        TideLodger x = new TideLodger();
        for (int many = 20; many <= 600; many += 20) {
            Check.due(many, "feed", x.feed(0x72656e74, 0x20373b20, 0x20202020, 0x20202020, 0x20202020));
        }
        Check.due(-1, "feed beyond 600", x.feed(-1, -1, -1, -1, -1));
        Check.due(600, "count(1)", x.count(1));
        Check.due(0, "street(600) of 30 rents", x.street(600));
        Check.due(7, "R, the highest byte first", x.told(6));
        Check.due(0, "count(1) behind it", x.count(1));
        Check.due(20, "feed again", x.feed(0x723b0000, 0, 0, 0, 0));
        TideLodger y = new TideLodger();
        y.feed(0x686f7573, 0x6520333b, 0x72656e74, 0x20353b72, 0x6f706520);
        y.feed(0x393b0000, 0, 0, 0, 0);
        Check.due(0, "street over two feeds", y.street(22));
        Check.due(5, "R", y.told(6));
        y.feed(0x80ffff80, -1, -1, -1, -1);
        Check.due(-9, "bytes above 127", y.street(1));
        Check.due(0, "its place", y.fault());
    }

    private static void promise3Street() {
        TideLodger x = new TideLodger();
        Check.feed(x, "house 3;thing 0 1 2 3;tide 4;");
        Check.illegal("street(-1)", () -> x.street(-1));
        Check.illegal("street(41)", () -> x.street(41));
        Check.illegal("street(least)", () -> x.street(Integer.MIN_VALUE));
        Check.due(40, "the TAPE stays", x.count(1));
        Check.due(1, "street(29)", x.street(29));
        Check.due(0, "the TAPE is empty", x.count(1));
        Check.illegal("street(1) of none", () -> x.street(1));
        Check.due(1, "law", Check.law(x, "1"));
        Check.due(1, "stains", Check.stains(x, "0 1;"));
        Check.due(0, "work", Check.work(x, "lower 0;"));
        Check.due(1, "image", x.image());
        Check.due(-9, "a FAULT", Check.street(x, "house 3"));
        Check.due(0, "the TAPE is empty behind a FAULT", x.count(1));
        Check.due(1, "HOUSES stay", x.told(0));
        Check.due(1, "the LAW stays", x.due(0));
        Check.due(1, "STAINS stay", x.told(7));
        Check.due(1, "REFUSED ones stay", x.told(8));
        Check.due(1, "IMAGES stay", x.count(0));
        Check.due(1, "WORKS stay", x.count(2));
        Check.due(0, "street anew", Check.street(x, "house 9;house 2;tide 60;"));
        Check.due(2, "HOUSES", x.told(0));
        Check.due(0, "THINGS", x.told(1));
        Check.due(1, "TIDES", x.told(2));
        Check.due(0, "no STAINS", x.told(7));
        Check.due(0, "none REFUSED", x.told(8));
        Check.due(0, "no IMAGES", x.count(0));
        Check.due(0, "no WORKS", x.count(2));
        Check.due(-1, "undo()", x.undo());
        Check.due(-1, "restore()", x.restore());
        Check.due(2, "no LAW", x.due(0));
        Check.due(10, "R, 10 without", x.told(6));
    }

    private static void promise3Clauses() {
        TideLodger x = Check.in("  house   0  ; house40;thing 1 9 20 40 ;thing0 1 1 0;tide 0;tide60;find 1 0;find 40 16;"
                + "rent 40;rent 3;rope 9;rope 1;  ");
        Check.due(2, "HOUSES", x.told(0));
        Check.due(2, "THINGS", x.told(1));
        Check.due(2, "TIDES", x.told(2));
        Check.due(2, "FINDS", x.told(3));
        Check.due(3, "the last rent counts", x.told(6));
        Check.due(40, "SILL", x.house(1, 0));
        Check.due(1, "the HOUSE of a THING", x.thing(0, 3));
        Check.due(9, "WEIGHT", x.thing(0, 0));
        Check.due(20, "F", x.thing(0, 1));
        Check.due(40, "WORTH", x.thing(0, 2));
        Check.due(1, "tie", Check.work(x, "tie 1;"));
        Check.due(1, "the last rope counts", x.snaps(1));
        TideLodger y = Check.in("house 0;thing 0 1 1 1;tide 9;");
        Check.due(1, "tie", Check.work(y, "tie 0;"));
        Check.due(2, "a rope holds 3 without", y.snaps(0));
        Check.due(0, "street anew", Check.street(x, "rent 3;rope 1;"));
        Check.due(1, "street anew", Check.street(x, "house 0;thing 0 1 1 1;tide 9;"));
        Check.due(10, "R, 10 without, whatever was told ahead", x.told(6));
        Check.due(1, "tie", Check.work(x, "tie 0;"));
        Check.due(2, "a rope, 3 without, whatever was told ahead", x.snaps(0));
        Check.due(-1, "blanks alone", Check.in("    ").fault());
        Check.due(0, "leading zeros", Check.street(y, "rent 0000000000000000000000000007;"));
        Check.due(7, "R", y.told(6));
    }

    private static void street(int kind, int place, String text) {
        TideLodger x = Check.in("house 7;rent 4;");
        Check.due(kind - 10, "street " + text, Check.street(x, text));
        Check.due(place, "place in " + text, x.fault());
        Check.due(1, "HOUSES behind it", x.told(0));
        Check.due(4, "R behind it", x.told(6));
    }

    private static void promise3Faults() {
        street(1, 0, "houses 1;");
        street(1, 0, "hous 1;");
        street(1, 0, "tidez 1;");
        street(1, 2, "  ;");
        street(1, 8, "house 1;;");
        street(1, 0, "7;");
        street(1, 0, "House 1;");
        street(1, 5, "house;");
        street(1, 5, "house\t1;");
        street(1, 5, "house-1;");
        street(1, 9, "house 1  ");
        street(1, 5, "house");
        street(1, 8, "house   ");
        street(1, 8, "house 1 1;");
        street(1, 7, "house 1,");
        street(1, 2, "  " + (char) 0);
        street(1, 8, "house 1;" + (char) 233);
        street(1, 17, "house 1;thing 0 1;");
        street(1, 7, "find 40;");
        street(2, 6, "house 41;");
        street(2, 6, "house 99999999999999999999;");
        street(2, 6, "house 4294967296;");
        street(2, 6, "thing 0 1 1 1;");
        street(2, 14, "house 1;thing 1 1 1 1;");
        street(2, 16, "house 1;thing 0 0 1 1;");
        street(2, 16, "house 1;thing 0 10 1 1;");
        street(2, 18, "house 1;thing 0 1 0 1;");
        street(2, 18, "house 1;thing 0 1 21 1;");
        street(2, 20, "house 1;thing 0 1 1 41;");
        street(2, 5, "tide 61;");
        street(2, 5, "find 0 1;");
        street(2, 5, "find 41 1;");
        street(2, 7, "find 1 17;");
        street(2, 5, "rent 41;");
        street(2, 5, "rope 0;");
        street(2, 5, "rope 10;");
        street(2, 6, "house 41 x");
    }

    private static void promise3TooMany() {
        String six = "house 1;".repeat(6);
        street(3, 48, six + "house 99;");
        street(3, 50, six + "  house 1;");
        street(1, 48, six + "houses 1;");
        Check.due(6, "six HOUSES", Check.in(six).told(0));
        String ten = "house 1;" + "thing 0 1 1 1;".repeat(10);
        street(3, 148, ten + "thing 9 1 1 1;");
        Check.due(10, "ten THINGS", Check.in(ten).told(1));
        String twelve = "tide 1;".repeat(12);
        street(3, 84, twelve + "tide x");
        Check.due(12, "twelve TIDES", Check.in(twelve).told(2));
        String sixFinds = "find 1 1;".repeat(6);
        street(3, 54, sixFinds + "find 1 1;");
        Check.due(6, "six FINDS", Check.in(sixFinds).told(3));
        String sixty = "rent 5;".repeat(60);
        Check.due(5, "sixty CLAUSES", Check.in(sixty + "   ").told(6));
        for (String word : new String[] {"rent", "rope", "house", "thing", "tide", "find"}) {
            street(3, 421, sixty + " " + word);
        }
        street(1, 420, sixty + "rents 1;");
        street(1, 420, sixty + ";");
        Check.due(8, "sixty of all kinds",
                Check.in("house 0;".repeat(6) + "thing 0 1 1 1;".repeat(8) + "rope 8;rent 8;".repeat(23)).told(6));
    }

    private static void lawIs(int due, String text, int depth, int lost, int wet, int tide, int rent, int house) {
        TideLodger x = new TideLodger();
        Check.due(1, "law " + text, Check.law(x, text));
        Check.due(-1, "fault() of " + text, x.fault());
        Check.due(due, text, x.would(depth, lost, wet, tide, rent, house));
    }

    private static void promise4Law() {
        lawIs(7, " 1 + 2 * 3 ", 1, 0, 0, 0, 0, 0);
        lawIs(9, "(1+2)*3", 1, 0, 0, 0, 0, 0);
        lawIs(5, "10-3-2", 1, 0, 0, 0, 0, 0);
        lawIs(6, "10-8/2/2*2", 1, 0, 0, 0, 0, 0);
        lawIs(10, "100/10", 1, 0, 0, 0, 0, 0);
        lawIs(60, "depth", 60, 1, 2, 3, 4, 5);
        lawIs(1, "lost", 60, 1, 2, 3, 4, 5);
        lawIs(2, "wet", 60, 1, 2, 3, 4, 5);
        lawIs(13, "tide", 60, 1, 2, 13, 4, 5);
        lawIs(5, "moon", 60, 1, 2, 13, 4, 5);
        lawIs(0, "moon", 60, 1, 2, 16, 4, 5);
        lawIs(4, "rent", 60, 1, 2, 3, 4, 5);
        lawIs(5, "house", 60, 1, 2, 3, 4, 5);
        lawIs(2, "least[ wet , 3 ]", 60, 1, 2, 3, 4, 5);
        lawIs(3, "most[wet,3]", 60, 1, 2, 3, 4, 5);
        lawIs(99, "999", 1, 0, 0, 0, 0, 0);
        lawIs(0, "1-2", 1, 0, 0, 0, 0, 0);
        lawIs(0, "7/0", 1, 0, 0, 0, 0, 0);
        lawIs(3, "7/0+3", 1, 0, 0, 0, 0, 0);
        lawIs(7, "(0-7)/2+10", 1, 0, 0, 0, 0, 0);
        // 900^4 is 656,100,000,000, which wraps to -1,029,996,288.
        lawIs(0, "900*900*900*900", 1, 0, 0, 0, 0, 0);
        lawIs(10, "0-900*900*900*900/999/999/99", 1, 0, 0, 0, 0, 0);
        lawIs(1, "((((((1))))))", 1, 0, 0, 0, 0, 0);
        lawIs(1, "(least[(most[(least[1,2]),0]),3])", 1, 0, 0, 0, 0, 0);
        lawIs(1, "least[2,most[1,least[2,most[1,least[2,most[1,1]]]]]]", 1, 0, 0, 0, 0, 0);
        lawIs(6, "(1)+(2)+(3)+(0)+(0)+(0)+(0)", 1, 0, 0, 0, 0, 0);
        lawIs(0, "(0-512*512*512*16)/(0-1)", 1, 0, 0, 0, 0, 0);
        TideLodger x = Check.in("house 0;thing 0 1 1 1;tide 8;rent 1;");
        Check.due(4, "without a LAW", x.due(0));
        Check.feed(x, "7                   ");
        Check.illegal("law(21)", () -> x.law(21));
        Check.illegal("law(-1)", () -> x.law(-1));
        Check.due(20, "the TAPE stays", x.count(1));
        Check.due(1, "law(1)", x.law(1));
        Check.due(7, "by it", x.due(0));
        Check.feed(x, " ".repeat(149) + "98");
        Check.illegal("law(151)", () -> x.law(151));
        Check.due(1, "law(150)", x.law(150));
        Check.due(0, "the TAPE is empty", x.count(1));
        Check.due(9, "by it", x.due(0));
    }

    private static void law(int kind, int place, String text) {
        TideLodger x = new TideLodger();
        Check.due(1, "law", Check.law(x, "77"));
        Check.due(kind - 10, "law " + text, Check.law(x, text));
        Check.due(place, "place in " + text, x.fault());
        Check.due(77, "the LAW behind it", x.would(1, 0, 0, 0, 0, 0));
    }

    private static void promise4LawFaults() {
        law(1, 0, "");
        law(1, 3, "   ");
        law(1, 0, "moons");
        law(1, 0, "Depth");
        law(1, 2, "1 2");
        law(1, 2, "1 1000");
        law(1, 2, "1+");
        law(1, 2, "1+*2");
        law(1, 0, "-1");
        law(1, 2, "(1");
        law(1, 3, "(1 ]");
        law(1, 1, "1)");
        law(1, 5, "least");
        law(1, 8, "least [1]");
        law(1, 6, "least (1,2)");
        law(1, 9, "least[1,2)");
        law(1, 9, "least[1,2");
        law(1, 6, "depth depth");
        law(1, 5, "depth2");
        law(2, 0, "1000");
        law(2, 4, "1 + 9999999999");
        law(3, 6, "(((((((1)))))))");
        law(3, 6, "((((((least");
        law(3, 6, "((((((most[1,1]))))))");
        law(1, 6, "((((((leasts");
        law(3, 36, "least[least[most[least[most[least[1,(2)],2],2],2],2],2]");
        law(2, 6, "((((((1000");
    }

    private static void promise5Work() {
        TideLodger x = Check.in("house 0;house 40;thing 0 1 2 9;thing 1 2 2 9;tide 8;rope 2;");
        Check.due(2, "lift twice the same", Check.work(x, "lift 0;lift 0;lift 1;"));
        Check.due(1, "REFUSED", x.told(8));
        Check.due(1, "up", x.thing(0, 4));
        Check.due(0, "tie what is up", Check.work(x, "tie 0;"));
        Check.due(1, "lower", Check.work(x, "lower 0;lower 0;"));
        Check.due(0, "down", x.thing(0, 4));
        Check.due(1, "tie", Check.work(x, " tie 0 ; tie 0; lift 0 ; "));
        Check.due(2, "REFUSED", x.told(8));
        Check.due(1, "tied", x.thing(0, 5));
        Check.due(1, "a TIDE", Check.work(x, "tide;"));
        Check.due(1, "worn", x.thing(0, 6));
        Check.due(0, "it stays", x.thing(0, 3));
        Check.due(1, "untie", Check.work(x, "untie 0;untie 0;"));
        Check.due(1, "REFUSED", x.told(8));
        Check.due(0, "not tied", x.thing(0, 5));
        Check.due(0, "not worn", x.thing(0, 6));
        Check.due(1, "a new rope", Check.work(x, "tie 0;"));
        Check.due(1, "tied", x.thing(0, 5));
        Check.due(0, "not worn", x.thing(0, 6));
        Check.due(2, "to its end", Check.work(x, "tide;tide;"));
        Check.due(0, "not tied", x.thing(0, 5));
        Check.due(0, "not worn", x.thing(0, 6));
        Check.due(0, "it did not float then", x.thing(0, 3));
        Check.due(6, "WORTH", x.thing(0, 2));
        Check.due(1, "it floats", Check.work(x, "tide;"));
        Check.due(1, "one HOUSE on", x.thing(0, 3));
        Check.due(5, "WORTH", x.thing(0, 2));
        TideLodger y = Check.in("house 0;thing 0 1 1 0;tide 1;");
        Check.due(1, "GONE", Check.work(y, "tide;lift 0;lower 0;tie 0;untie 0;"));
        Check.due(4, "REFUSED", y.told(8));
        Check.due(0, "WORTH, 0 at least", y.thing(0, 2));
        Check.due(9, "bags", Check.work(y, "bag 0;bag 0;bag 0;bag 0;bag 0;bag 0;bag 0;bag 0;bag 0;bag 0;"));
        Check.due(1, "a tenth is REFUSED", y.told(8));
        Check.due(18, "SILL", y.house(0, 0));
        Check.due(0, "work(0)", y.work(0));
        Check.due(3, "WORKS", y.count(2));
        Check.feed(y, "tide;tide;".repeat(16));
        Check.illegal("work(151)", () -> y.work(151));
        Check.illegal("work(-1)", () -> y.work(-1));
        Check.due(160, "the TAPE stays", y.count(1));
        Check.due(30, "work(150)", y.work(150));
        Check.illegal("work(1) of none", () -> y.work(1));
    }

    /** Each THING and HOUSE of a full STREET stands for itself. */
    private static void promise5FullStreet() {
        StringBuilder street = new StringBuilder();
        for (int house = 0; house < 6; house++) {
            street.append("house ").append(house).append(";");
        }
        for (int thing = 0; thing < 10; thing++) {
            street.append("thing ").append(thing % 6).append(" 1 20 ").append(20 + thing).append(";");
        }
        for (int tide = 0; tide < 12; tide++) {
            street.append("tide ").append(tide == 0 ? 25 : tide).append(";");
        }
        TideLodger x = Check.in(street.toString());
        Check.due(10, "work", Check.work(x, "lift 0;lift 2;lift 9;tie 1;tie 7;tie 8;bag 0;bag 5;bag 5;lift 4;"));
        fullStreet(x, new int[] {20, 21, 22, 23, 24, 25, 26, 27, 28, 29}, new int[] {0, 1, 2, 3, 4, 5, 0, 1, 2, 3}, 0);
        Check.due(1, "law", Check.law(x, "house + 1"));
        Check.due(1, "work", Check.work(x, "tide;"));
        // WATER is 23, 24, 23, 22, 21, 16: what is down floats on, but for tied ones and THING 5.
        fullStreet(x, new int[] {20, 20, 22, 22, 24, 24, 25, 26, 27, 29}, new int[] {0, 1, 2, 4, 4, 5, 1, 1, 2, 3}, 1);
        Check.due(21, "paid", x.told(11));
        Check.due(1, "TIDE", x.told(4));
        Check.due(0, "undo()", x.undo() - 1);
        fullStreet(x, new int[] {20, 21, 22, 23, 24, 25, 26, 27, 28, 29}, new int[] {0, 1, 2, 3, 4, 5, 0, 1, 2, 3}, 0);
    }

    /** The first and the last THING and HOUSE, where the row of one kind ends and that of the next begins. */
    private static void promise5Ends() {
        TideLodger x = Check.in("house 0;".repeat(6) + "thing 5 1 20 9;".repeat(9) + "thing 5 1 1 9;tide 1;rope 9;");
        Check.due(2, "work", Check.work(x, "tie 9;tide;"));
        Check.due(1, "tied", x.thing(9, 5));
        Check.due(1, "worn", x.thing(9, 6));
        for (int thing = 0; thing < 9; thing++) {
            for (int what = 4; what < 7; what++) {
                Check.due(0, "thing(" + thing + ", " + what + ")", x.thing(thing, what));
            }
            Check.due(8, "WORTH of " + thing, x.thing(thing, 2));
        }
        TideLodger y = Check.in("house 0;thing 0 1 1 9;" + "thing 0 1 20 9;".repeat(9) + "tide 1;rope 9;");
        Check.due(2, "work", Check.work(y, "tie 0;tide;"));
        Check.due(1, "worn", y.thing(0, 6));
        Check.due(0, "tied", y.thing(9, 5));
        Check.due(1, "tie", Check.work(y, "tie 9;"));
        Check.due(1, "worn", y.thing(0, 6));
        Check.due(1, "tied", y.thing(9, 5));
        Check.due(2, "work", Check.work(y, "untie 0;lift 0;"));
        Check.due(1, "tied", y.thing(9, 5));
        Check.due(0, "up", y.thing(9, 4));
        Check.due(2, "work", Check.work(y, "untie 9;lift 9;"));
        Check.due(0, "tied", y.thing(0, 5));
        Check.due(1, "up", y.thing(9, 4));
    }

    private static void fullStreet(TideLodger x, int[] worths, int[] houses, int worn) {
        for (int thing = 0; thing < 10; thing++) {
            boolean up = thing == 0 || thing == 2 || thing == 9 || thing == 4;
            boolean tied = thing == 1 || thing == 7 || thing == 8;
            Check.due(worths[thing], "WORTH of " + thing, x.thing(thing, 2));
            Check.due(houses[thing], "HOUSE of " + thing, x.thing(thing, 3));
            Check.due(up ? 1 : 0, "up " + thing, x.thing(thing, 4));
            Check.due(tied ? 1 : 0, "tied " + thing, x.thing(thing, 5));
            Check.due(tied ? worn : 0, "worn " + thing, x.thing(thing, 6));
        }
        for (int house = 0; house < 6; house++) {
            int bags = house == 0 ? 1 : house == 5 ? 2 : 0;
            Check.due(house + 2 * bags, "SILL of " + house, x.house(house, 0));
            Check.due(bags, "bags of " + house, x.house(house, 1));
            Check.due(worn * (house + 1), "paid to " + house, x.house(house, 4));
        }
    }

    private static void promise5Agains() {
        TideLodger x = Check.in("house 0;thing 0 1 1 1;tide 0;");
        Check.due(9, "a STEP counts each time", Check.work(x, "again 3 [tide;again 2[tide;];];"));
        Check.due(9, "TIDES", x.told(4));
        Check.due(1, "again 0", Check.work(x, "again 0[tide;tide;];again 20[];tide;"));
        Check.due(10, "TIDES", x.told(4));
        Check.due(199, "200 begun, the again too", Check.work(x, "again 20[tide;tide;tide;tide;tide;tide;tide;tide;tide;tide;];"));
        Check.due(209, "TIDES", x.told(4));
        // Each inner again is begun as well: 1, then 16 times 12, then an again and 6 of its eleven.
        Check.due(182, "inner agains are begun too", Check.work(x, "again 20[again 11[tide;];];"));
        Check.due(391, "TIDES", x.told(4));
        Check.due(109, "up to TIDE 500", Check.work(x, "again 20[tide;tide;tide;tide;tide;tide;tide;tide;];"));
        Check.due(500, "TIDES", x.told(4));
        Check.due(51, "REFUSED from TIDE 500 on", x.told(8));
        Check.due(1, "others go on", Check.work(x, "tide;lift 0;"));
        Check.due(0, "REFUSED ones are begun", Check.work(x, "again 20[again 20[lift 0;];];lower 0;"));
        Check.due(189, "200 less the agains", x.told(8));
        Check.due(1, "it is still up", x.thing(0, 4));
        Check.due(1, "six are open", Check.work(x, "again 1[again 1[again 1[again 1[again 1[again 1[lower 0;];];];];];];"));
    }

    private static void work(int kind, int place, String text) {
        TideLodger x = Check.in("house 7;thing 0 1 1 1;tide 8;");
        Check.due(0, "work", Check.work(x, "lower 0;lower 0;"));
        Check.due(kind - 10, "work " + text, Check.work(x, text));
        Check.due(place, "place in " + text, x.fault());
        Check.due(1, "WORKS behind it", x.count(2));
        Check.due(2, "REFUSED ones stay", x.told(8));
        Check.due(0, "none is done", x.told(4));
    }

    private static void promise5WorkFaults() {
        work(2, 10, "tide;lift 1;");
        work(2, 4, "bag 1;");
        work(2, 6, "lower 1;");
        work(2, 4, "tie 1;");
        work(2, 6, "untie 1;");
        work(2, 6, "again 21[];");
        work(1, 0, "tides;");
        work(1, 4, "tide");
        work(1, 5, "tide 1;");
        work(1, 5, "tide;]");
        work(1, 7, "again 1;");
        work(1, 9, "again 1[]");
        work(1, 9, "again 1[ ");
        work(1, 12, "again 1[tide];");
        work(1, 5, "lift ;");
        work(1, 0, ";");
        String six = "again 1 [".repeat(6);
        work(3, 54, six + "again 21[");
        work(3, 54, six + "again");
        work(1, 54, six + "agains");
        work(1, 68, six + "];];again 1[];");
        work(1, 54, six);
    }

    private static void promise5FullOfWorks() {
        TideLodger x = Check.in("house 7;thing 0 1 1 1;tide 8;");
        for (int i = 1; i <= 16; i++) {
            Check.due(0, "work of none", Check.work(x, "lower 0;"));
            Check.due(i, "WORKS", x.count(2));
        }
        Check.due(-9, "a FAULT of law", Check.law(x, "1 1"));
        Check.due(2, "its place", x.fault());
        Check.feed(x, "tides;");
        Check.illegal("work(21) ahead of -20", () -> x.work(21));
        Check.due(2, "the FAULT is still there", x.fault());
        Check.due(-20, "16 WORKS, ahead of the FAULT", x.work(6));
        Check.due(-1, "there is no FAULT", x.fault());
        Check.due(0, "the TAPE is empty", x.count(1));
        Check.due(1, "REFUSED ones stay", x.told(8));
        Check.due(16, "WORKS", x.count(2));
        Check.due(15, "undo()", x.undo());
        Check.due(1, "work again", Check.work(x, "tide;"));
        Check.due(-20, "and full", x.work(0));
    }

    private static void stains(int kind, int place, String text) {
        TideLodger x = Check.in("house 7;house 1;house 1;");
        Check.due(2, "stains", Check.stains(x, "0 1;1 1;"));
        Check.due(kind - 10, "stains " + text, Check.stains(x, text));
        Check.due(place, "place in " + text, x.fault());
        Check.due(2, "lines behind it", x.told(7));
    }

    private static void promise6Stains() {
        stains(2, 0, "3 1;");
        stains(2, 2, "0 61;");
        stains(2, 8, "0 1;1 2;0 3;");
        stains(1, 1, "0;");
        stains(1, 3, "0 1");
        stains(1, 0, "house 1;");
        stains(1, 4, "0 1;;");
        stains(2, 12, "0 1;1 1;2 1;2 1;");
        TideLodger x = Check.in("house 0;".repeat(6));
        Check.due(6, "six lines", Check.stains(x, " 5 0;4 60 ; 3 1;2 1;1 1;0 1; "));
        Check.due(6, "told(7)", x.told(7));
        Check.due(1, "one line", Check.stains(x, "5 9;"));
        Check.due(0, "none", Check.stains(x, ""));
        Check.due(0, "told(7)", x.told(7));
        Check.feed(x, "0 1;" + " ".repeat(57));
        Check.illegal("stains(61)", () -> x.stains(61));
        Check.illegal("stains(-1)", () -> x.stains(-1));
        Check.due(80, "the TAPE stays", x.count(1));
        Check.due(1, "stains(60)", x.stains(60));
        Check.due(-8, "no HOUSE at all", Check.stains(new TideLodger(), "0 0;"));
    }

    private static void promise7Fault() {
        TideLodger x = new TideLodger();
        Check.due(-1, "none", x.fault());
        Check.due(-9, "law", Check.law(x, "1 +"));
        Check.due(3, "its place", x.fault());
        Check.illegal("law(1) of none", () -> x.law(1));
        Check.due(3, "it is still the latest", x.fault());
        Check.due(0, "stains", x.stains(0));
        Check.due(-1, "no FAULT", x.fault());
        Check.due(-9, "work", Check.work(x, " x"));
        Check.due(1, "its place", x.fault());
        Check.due(0, "street", x.street(0));
        Check.due(-1, "no FAULT", x.fault());
    }

    private static void promise8Undo() {
        TideLodger x = Check.in("house 0;thing 0 1 1 9;thing 0 2 20 9;tide 8;");
        Check.due(-1, "undo()", x.undo());
        Check.due(4, "work", Check.work(x, "bag 0;tie 0;lift 1;tide;"));
        Check.due(3, "work", Check.work(x, "tide;tide;tie 0;"));
        Check.due(0, "work of none", x.work(0));
        Check.due(0, "all REFUSED", Check.work(x, "again 0[];tie 0;"));
        Check.due(1, "REFUSED", x.told(8));
        Check.due(3, "undo()", x.undo());
        Check.due(0, "none REFUSED", x.told(8));
        Check.due(2, "undo()", x.undo());
        Check.due(3, "TIDES", x.told(4));
        Check.due(1, "undo()", x.undo());
        Check.due(1, "TIDES", x.told(4));
        Check.due(1, "worn", x.thing(0, 6));
        Check.due(8, "WORTH", x.thing(0, 2));
        Check.due(1, "up", x.thing(1, 4));
        Check.due(0, "undo()", x.undo());
        Check.due(0, "TIDES", x.told(4));
        Check.due(0, "SILL", x.house(0, 0));
        Check.due(0, "bags", x.house(0, 1));
        Check.due(0, "paid", x.house(0, 4));
        Check.due(0, "tied", x.thing(0, 5));
        Check.due(0, "worn", x.thing(0, 6));
        Check.due(9, "WORTH", x.thing(0, 2));
        Check.due(0, "up", x.thing(1, 4));
        Check.due(0, "all REFUSED", Check.work(x, "lower 0;lower 1;"));
        Check.due(0, "undo()", x.undo());
        Check.due(0, "work", Check.work(x, "untie 0;"));
        Check.street(x, "house 1;");
        Check.due(-1, "undo() behind a STREET", x.undo());
    }

    private static void promise9Told() {
        TideLodger x = Check.in("house 0;house 0;thing 0 1 1 9;thing 1 2 1 7;thing 1 2 20 5;tide 8;tide 2;tide 9;"
                + "find 1 1;find 2 2;find 3 3;find 4 4;rent 0;");
        Check.due(2, "stains", Check.stains(x, "0 1;1 1;"));
        int[] first = {2, 3, 3, 4, 0, 8, 0, 2, 0, 0, 21, 0};
        for (int what = 0; what < 12; what++) {
            Check.due(first[what], "told(" + what + ")", x.told(what));
        }
        // Both HOUSES: 8 / 4 + 3; WORTH 8 and 4 are left.
        Check.due(1, "work", Check.work(x, "untie 0;tide;lower 0;"));
        int[] second = {2, 3, 3, 4, 1, 2, 0, 2, 2, 1, 12, 10};
        for (int what = 0; what < 12; what++) {
            Check.due(second[what], "told(" + what + ")", x.told(what));
        }
        Check.due(-1, "restore() of none", x.restore());
        Check.due(2, "-1 leaves it", x.told(8));
        Check.due(-9, "a FAULT", Check.work(x, "x"));
        Check.due(2, "a FAULT leaves it", x.told(8));
        Check.due(1, "image()", x.image());
        Check.due(2, "image() leaves it", x.told(8));
        Check.due(0, "restore()", x.restore());
        Check.due(0, "restore() makes it 0", x.told(8));
        Check.due(0, "work", Check.work(x, "untie 0;"));
        Check.due(1, "REFUSED", x.told(8));
        Check.due(1, "undo()", x.undo());
        Check.due(0, "undo() makes it 0", x.told(8));
        Check.due(0, "undo()", x.undo());
        Check.due(0, "all REFUSED, then undone to none", Check.work(x, "untie 0;"));
        Check.due(0, "undo()", x.undo());
        Check.due(-1, "undo() of none", x.undo());
        Check.due(0, "work", Check.work(x, "untie 0;"));
        Check.due(0, "street", Check.street(x, "house 1;"));
        Check.due(0, "street() makes it 0", x.told(8));
        Check.illegal("told(-1)", () -> x.told(-1));
        Check.illegal("told(12)", () -> x.told(12));
        TideLodger y = Check.in("tide 5;tide 6;");
        Check.due(20, "work", Check.work(y, "again 20[tide;];"));
        Check.due(5, "behind the last the first is there again", y.told(5));
        Check.due(1, "work", Check.work(y, "tide;"));
        Check.due(6, "and the second", y.told(5));
    }

    private static void promise39And40Images() {
        TideLodger x = Check.in("house 0;thing 0 1 9 9;tide 8;rent 0;");
        Check.due(-1, "restore()", x.restore());
        Check.due(1, "work", Check.work(x, "tide;"));
        Check.due(1, "image()", x.image());
        Check.due(2, "work", Check.work(x, "bag 0;tie 0;"));
        Check.due(2, "image()", x.image());
        Check.due(1, "work", Check.work(x, "tide;"));
        Check.due(3, "image()", x.image());
        Check.due(-1, "a fourth", x.image());
        Check.due(3, "count(0)", x.count(0));
        Check.due(1, "law", Check.law(x, "1"));
        Check.due(1, "stains", Check.stains(x, "0 1;"));
        Check.due(2, "undo()", x.undo());
        Check.due(1, "undo()", x.undo());
        Check.due(0, "undo()", x.undo());
        Check.due(2, "restore()", x.restore());
        Check.due(2, "TIDES", x.told(4));
        Check.due(3, "WORKS", x.count(2));
        Check.due(1, "the LAW stays", x.due(0));
        Check.due(1, "STAINS stay", x.told(7));
        Check.due(2, "undo() goes on as it was", x.undo());
        Check.due(1, "TIDES", x.told(4));
        Check.due(1, "tied", x.thing(0, 5));
        Check.due(1, "undo()", x.undo());
        Check.due(0, "tied", x.thing(0, 5));
        Check.due(0, "SILL", x.house(0, 0));
        Check.due(1, "restore()", x.restore());
        Check.due(2, "SILL", x.house(0, 0));
        Check.due(8, "WORTH", x.thing(0, 2));
        Check.due(2, "WORKS", x.count(2));
        Check.due(2, "image() of another", x.image());
        Check.due(1, "work", Check.work(x, "untie 0;"));
        Check.due(1, "restore()", x.restore());
        Check.due(1, "tied", x.thing(0, 5));
        Check.due(0, "restore()", x.restore());
        Check.due(0, "tied", x.thing(0, 5));
        Check.due(2, "paid", x.told(11));
        Check.due(1, "WORKS", x.count(2));
        Check.due(-1, "restore()", x.restore());
        Check.due(1, "image()", x.image());
        Check.street(x, "");
        Check.due(-1, "restore() behind a STREET", x.restore());
        fullImage();
        imageOfOtherWorks();
    }

    /** What is undone behind restore() are the WORKS of the IMAGE, not those that came in their place. */
    private static void imageOfOtherWorks() {
        TideLodger x = Check.in("house 0;tide 8;");
        Check.due(1, "work", Check.work(x, "bag 0;"));
        Check.due(1, "work", Check.work(x, "bag 0;"));
        Check.due(1, "image()", x.image());
        Check.due(1, "undo()", x.undo());
        Check.due(0, "undo()", x.undo());
        Check.due(1, "work", Check.work(x, "tide;"));
        Check.due(1, "work", Check.work(x, "tide;"));
        Check.due(1, "work", Check.work(x, "tide;"));
        Check.due(0, "restore()", x.restore());
        Check.due(2, "WORKS", x.count(2));
        Check.due(4, "SILL", x.house(0, 0));
        Check.due(0, "TIDES", x.told(4));
        Check.due(1, "undo()", x.undo());
        Check.due(2, "SILL", x.house(0, 0));
        Check.due(0, "TIDES", x.told(4));
        Check.due(0, "undo()", x.undo());
        Check.due(0, "SILL", x.house(0, 0));
    }

    private static void fullImage() {
        TideLodger x = Check.in("house 0;tide 8;rent 0;");
        for (int i = 0; i < 16; i++) {
            Check.due(1, "work", Check.work(x, "tide;"));
        }
        for (int i = 1; i <= 3; i++) {
            Check.due(i, "image()", x.image());
        }
        for (int i = 15; i >= 0; i--) {
            Check.due(i, "undo()", x.undo());
        }
        Check.due(2, "restore()", x.restore());
        for (int i = 15; i >= 0; i--) {
            Check.due(i, "undo()", x.undo());
            Check.due(i, "TIDES", x.told(4));
            Check.due(2 * i, "paid", x.told(11));
        }
    }

    private static void promise41Status() {
        TideLodger x = Check.in("house 0;thing 0 1 1 1;tide 1;find 1 1;");
        Check.due(0, "status(0)", x.status(0));
        Check.due(0, "status(1)", x.status(1));
        Check.missing("house(1, 9)", () -> x.house(1, 9));
        Check.missing("find(1, 9)", () -> x.find(1, 9));
        Check.due(1, "image()", x.image());
        Check.missing("thing(-1, 0)", () -> x.thing(-1, 0));
        Check.illegal("told(99)", () -> x.told(99));
        Check.illegal("street(1)", () -> x.street(1));
        Check.due(3, "status(0)", x.status(0));
        Check.due(2, "status(1)", x.status(1));
        Check.due(0, "restore()", x.restore());
        Check.due(3, "no IMAGE keeps status(0)", x.status(0));
        Check.due(2, "no IMAGE keeps status(1)", x.status(1));
        Check.street(x, "");
        Check.due(3, "status(0) behind a STREET", x.status(0));
        Check.due(-1, "status(2)", x.status(2));
        Check.due(-1, "status(-1)", x.status(-1));
        Check.due(2, "status of others is not refused", x.status(1));
        Check.due(-9, "a FAULT is not refused", Check.law(x, ""));
        Check.due(2, "status(1)", x.status(1));
    }

    private static void promise42Count() {
        TideLodger x = Check.in("house 0;tide 1;");
        for (int what = 0; what < 3; what++) {
            Check.due(0, "count(" + what + ")", x.count(what));
        }
        Check.due(20, "feed", x.feed(0, 0, 0, 0, 0));
        Check.due(40, "feed", x.feed(0, 0, 0, 0, 0));
        Check.due(40, "count(1)", x.count(1));
        Check.due(0, "work(0)", x.work(0));
        Check.due(1, "count(2)", x.count(2));
        Check.due(0, "count(1)", x.count(1));
        Check.due(1, "image()", x.image());
        Check.due(2, "image()", x.image());
        Check.due(2, "count(0)", x.count(0));
        Check.due(-1, "count(3)", x.count(3));
        Check.due(-1, "count(-1)", x.count(-1));
    }
}
