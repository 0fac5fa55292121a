/** Edges of promises 1 to 7: the TAPE, the texts told by it, their numbers, WORDS and FAULTS, the value of a LAW. */
public final class EdgesOfTextsTest extends Edges {
    private static final String ILLEGAL = "IllegalArgumentException: n is not 0 to the TAPE's bytes (it stays).";
    private static final String STAYS = "or the FAULT less 10 (all but the TAPE stays).";
    private static final String PLACE = "1 what can't stand there (at the length, if the text ends too early)";
    private static final String BLANKS = "blanks (32) may stand ahead of all these, and at the end.";
    private static final String DIGITS = "Numbers: digits, as many as stand there";
    private static final String LETTERS = "WORDS: small letters, as many as stand there";
    private static final String NONE_SUCH = "2 a number that is none such (an H twice)";
    private static final String AT_ITS_WORD = "3 a CLAUSE, HOUSE, THING, TIDE or FIND (at its word)";
    private static final String SEVENTH = "a 7th of ( least most again that is open at one time";
    private static final String WRAP = "Values are whole numbers of 32 bits that wrap";

    private EdgesOfTextsTest() { }

    public static void main(String[] args) {
        watch();
        newObject();
        tape();
        streetCall();
        streetClauses();
        streetThings();
        streetTides();
        streetRentAndRope();
        lawCall();
        lawNumbersAndNames();
        lawValues();
        workCall();
        stainsCall();
        faultCall();
        numbersAndWords();
        blanks();
        faultsOfPlace();
        faultsOfNumbers();
        faultsOfMany();
        faultsOfOpenOnes();
        firstOfFaults();
        end("EdgesOfTextsTest", 1, 7);
    }

    // ---- promise 1
    private static void newObject() {
        edge(1, "A STREET without CLAUSES.", () -> {
            TideLodger x = new TideLodger();
            for (int what = 0; what <= 11; what++) {
                due(what == 6 ? 10 : 0, "told(" + what + ")", x.told(what));
            }
            missing("house(0, 0)", () -> x.house(0, 0));
            missing("thing(0, 0)", () -> x.thing(0, 0));
            missing("find(0, 0)", () -> x.find(0, 0));
            row("height", of(0, 0), x.height(0), x.height(99));
            due(3, "the LAW that is there without", x.would(8, 1, 0, 0, 2, 0));
            row("fault, undo, restore", of(-1, -1, -1), x.fault(), x.undo(), x.restore());
            row("count", of(0, 0, 0), x.count(0), x.count(1), x.count(2));
        });
        edge(1, "A STREET without CLAUSES.", () -> {
            TideLodger x = new TideLodger();
            row("ahead", of(0, 0, 0, 0), x.ahead(60, 0), x.ahead(60, 1), x.ahead(60, 2), x.ahead(60, 3));
            row("spring", of(0, 0), x.spring(0), x.spring(1));
            row("carry", of(0, 0), x.carry(99, 24, 0), x.carry(99, 24, 1));
            row("rent, bags", of(0, 0), x.rent(0, 24), x.bags(0, 24));
            row("in, board", of(0, -1, 0, -1, -1), x.in(0), x.in(1), x.in(2), x.board(0), x.board(1));
            row("fullest, dearest", of(-1, -1, -1, -1), x.fullest(0), x.fullest(1), x.dearest(0), x.dearest(1));
            row("neap, dry", of(60, 0, 60), x.neap(0), x.neap(1), x.dry(0, 60));
            row("year", of(0, 0, 0, 96), x.year(1, 96, 16, 20, 0), x.year(1, 96, 16, 20, 1), x.year(1, 96, 16, 20, 2),
                    x.year(1, 96, 16, 20, 3));
            illegal("bags(1, 0)", () -> x.bags(1, 0));
            illegal("span by no THING", () -> x.span(1, 1, 1, 0, 0, 0, 0));
        });
        edge(1, "A STREET without CLAUSES.", () -> {
            TideLodger x = new TideLodger();
            due(1, "WORK is done in it", work(x, "tide;again 0[];"));
            due(-8, "no THING", work(x, "lift 0;"));
            due(-8, "no HOUSE", work(x, "bag 0;"));
            due(-8, "no HOUSE that is stained", stains(x, "0 0;"));
        });
        edge(1, "An object is used for at most 512 calls after it has been made", () -> {
            TideLodger x = new TideLodger();
            for (int call = 1; call <= 510; call++) {
                illegal("call " + call, () -> x.told(12));
            }
            due(10, "the 511th call", x.told(6));
            due(510, "the 512th call", x.status(1));
        });
    }

    // ---- promise 2
    private static void tape() {
        edge(2, "Twenty bytes come on the TAPE", () -> {
            TideLodger x = new TideLodger();
            due(20, "feed", x.feed(0, 0, 0, 0, 0));
            due(20, "count(1)", x.count(1));
            due(40, "feed", x.feed(-1, -1, -1, -1, -1));
            due(40, "count(1)", x.count(1));
        });
        edge(2, "of each number the highest first", () -> {
            TideLodger x = new TideLodger();
            // "rent", "1;ro", "pe2;", "rent", " 3; "
            x.feed(0x72656e74, 0x313b726f, 0x7065323b, 0x72656e74, 0x20333b20);
            due(0, "street", x.street(20));
            due(3, "R", x.told(6));
            x.feed(0x20202020, 0x20202020, 0x20202020, 0x20202020, 0x2020203b);
            due(-9, "the last byte", x.street(20));
            due(19, "its place", x.fault());
        });
        edge(2, "of each number the highest first", () -> {
            TideLodger x = new TideLodger();
            x.feed(0x20ff8000, Integer.MIN_VALUE, Integer.MAX_VALUE, -1, 0);
            due(-9, "a byte of 255 is no blank", x.street(20));
            due(1, "its place", x.fault());
            x.feed(0x80000000, 0, 0, 0, 0);
            due(-9, "a byte of 128 is no blank", x.street(1));
            due(0, "its place", x.fault());
            // 160 is 128 and a blank, 176 is 128 and the digit 0.
            x.feed(0x72656e74, 0x20b03b20, 0, 0, 0);
            due(-9, "a byte of 176 is no digit", x.street(7));
            due(5, "its place", x.fault());
            x.feed(0xa0202020, 0x20202020, 0, 0, 0);
            due(-9, "a byte of 160 is no blank", x.street(8));
            due(0, "its place", x.fault());
        });
        edge(2, "how many there are", () -> {
            TideLodger x = new TideLodger();
            for (int many = 20; many <= 600; many += 20) {
                due(many, "feed", x.feed(0, 0, 0, 0, 0));
                due(many, "count(1)", x.count(1));
            }
        });
        edge(2, "NONE, doing nothing, if there would be more than 600.", () -> {
            TideLodger x = new TideLodger();
            feed(x, "rope 9;" + " ".repeat(586) + "rent 7;");
            due(600, "count(1)", x.count(1));
            due(-1, "feed", x.feed(0x3b3b3b3b, 0x3b3b3b3b, 0x3b3b3b3b, 0x3b3b3b3b, 0x3b3b3b3b));
            due(-1, "feed again", x.feed(0, 0, 0, 0, 0));
            due(600, "count(1)", x.count(1));
            due(0, "street(600)", x.street(600));
            due(7, "R", x.told(6));
            due(20, "feed on the empty TAPE", x.feed(0x72656e74, 0x20383b20, 0x20202020, 0x20202020, 0x20202020));
            due(0, "street(20)", x.street(20));
            due(8, "R", x.told(6));
            row("nothing of it is refused by an exception", of(0, 0), x.status(0), x.status(1));
        });
        edge(2, "NONE, doing nothing, if there would be more than 600.", () -> {
            TideLodger x = new TideLodger();
            feed(x, " ".repeat(580));
            due(580, "count(1)", x.count(1));
            due(600, "the thirtieth feed", x.feed(0, 0, 0, 0, 0));
            due(-1, "the thirty-first", x.feed(0, 0, 0, 0, 0));
        });
    }

    // ---- promise 3
    private static void streetCall() {
        edge(3, "The first n bytes of the TAPE (empty then) are the STREET", () -> {
            TideLodger x = new TideLodger();
            feed(x, "house 1;house 2;rent 3;");
            due(0, "street(16)", x.street(16));
            due(2, "HOUSES", x.told(0));
            due(10, "R", x.told(6));
            due(0, "count(1)", x.count(1));
            due(20, "what is fed then stands at the front", x.feed(0x72656e74, 0x20383b20, 0, 0, 0));
            due(0, "street(7)", x.street(7));
            row("HOUSES, R", of(0, 8), x.told(0), x.told(6));
        });
        edge(3, "The first n bytes of the TAPE (empty then) are the STREET", () -> {
            TideLodger x = new TideLodger();
            feed(x, "house 1;");
            due(-9, "what stands behind n is not read", x.street(7));
            due(7, "fault()", x.fault());
            due(0, "count(1)", x.count(1));
            feed(x, "house 1;");
            due(0, "street(0)", x.street(0));
            row("HOUSES, the TAPE", of(0, 0), x.told(0), x.count(1));
        });
        String gone = "(no LAW, STAINS, IMAGES, nothing to undo)";
        edge(3, gone, () -> {
            TideLodger x = full();
            due(0, "street", street(x, "house 0;tide 8;rent 0;"));
            due(2, "no LAW", x.would(8, 0, 9, 9, 0, 5));
            due(2, "no LAW", x.due(0));
        });
        edge(3, gone, () -> {
            TideLodger x = full();
            due(1, "street", street(x, "house 0;thing 0 1 1 1;tide 8;"));
            due(0, "no STAINS", x.told(7));
            row("no STAINS", of(1, 1, 1, 0, 1), x.in(0), x.in(1), x.in(2), x.board(0), x.board(1));
        });
        edge(3, gone, () -> {
            TideLodger x = full();
            due(0, "street", street(x, "house 0;tide 8;"));
            due(0, "no IMAGES", x.count(0));
            due(-1, "no IMAGES", x.restore());
            due(0, "nothing to undo", x.count(2));
            due(-1, "nothing to undo", x.undo());
            row("TIDES, REFUSED, GONE, paid", of(0, 0, 0, 0), x.told(4), x.told(8), x.told(9), x.told(11));
            row("house(0)", of(0, 0, 8, 0, 0), x.house(0, 0), x.house(0, 1), x.house(0, 2), x.house(0, 3), x.house(0, 4));
        });
        edge(3, gone, () -> {
            TideLodger x = in("house 0;");
            for (int i = 1; i <= 16; i++) {
                due(0, "work", x.work(0));
            }
            due(-20, "sixteen WORKS", x.work(0));
            due(1, "image", x.image());
            due(2, "image", x.image());
            due(3, "image", x.image());
            due(-1, "three IMAGES", x.image());
            due(0, "street", x.street(0));
            due(0, "WORKS are done again", x.work(0));
            due(1, "IMAGES are made again", x.image());
        });
        edge(3, "how many THINGS", () -> {
            due(0, "none", street(new TideLodger(), "house 0;"));
            due(1, "one", street(new TideLodger(), "house 0;thing 0 1 1 1;house 1;"));
            due(10, "ten", street(new TideLodger(), "house 0;" + "thing 0 1 1 1;".repeat(10)));
        });
        edge(3, STAYS, () -> fault(1, 0, 's', "x"));
        edge(3, STAYS, () -> fault(1, 16, 's', "house 1;house 2;x"));
        edge(3, STAYS, () -> fault(2, 19, 's', "tide 2;rent 2;rope 10;"));
        edge(3, STAYS, () -> fault(3, 48, 's', "house 1;".repeat(7)));
        edge(3, ILLEGAL, () -> {
            TideLodger x = full();
            TideLodger y = full();
            feed(x, "rent 7;");
            for (int n : of(-1, 21, 600, 601, Integer.MAX_VALUE, Integer.MIN_VALUE)) {
                illegal("street(" + n + ")", () -> x.street(n));
            }
            row("count(1), status(1), fault()", of(20, 6, -1), x.count(1), x.status(1), x.fault());
            alike("behind street()", x, y);
            due(0, "the TAPE's bytes stay", x.street(7));
            due(7, "R", x.told(6));
        });
        edge(3, ILLEGAL, () -> {
            TideLodger x = new TideLodger();
            illegal("street(1) of an empty TAPE", () -> x.street(1));
            due(0, "street(0) of an empty TAPE", x.street(0));
            feed(x, "rent 7;" + " ".repeat(13));
            due(0, "street(20) of twenty bytes", x.street(20));
            due(7, "R", x.told(6));
        });
        edge(3, "A STREET is a text of up to 600 bytes", () -> {
            TideLodger x = new TideLodger();
            feed(x, " ".repeat(593) + "rent 7;");
            illegal("street(601)", () -> x.street(601));
            due(0, "street(600)", x.street(600));
            due(7, "R", x.told(6));
            feed(x, " ".repeat(593) + "rent 7;");
            due(-9, "street(599)", x.street(599));
            due(599, "its place", x.fault());
        });
    }

    private static void streetClauses() {
        String sixty = "{ CLAUSE \";\" }, at most 60.";
        edge(3, sixty, () -> due(0, "none", street(new TideLodger(), "")));
        edge(3, sixty, () -> {
            TideLodger x = good(0, 's', "rent 5;".repeat(59) + "rent 6;");
            due(6, "R", x.told(6));
            due(0, "blanks behind sixty", street(x, "rope 5;".repeat(60) + "   "));
        });
        edge(3, sixty, () -> {
            TideLodger x = good(8, 's', "house 0;".repeat(6) + "thing 5 1 1 1;".repeat(8) + "rent 3;rope 2;".repeat(23));
            row("HOUSES, THINGS, R", of(6, 8, 3), x.told(0), x.told(1), x.told(6));
        });
        for (String clause : new String[] {"rent 1;", "rope 1;", "house 1;", "thing 0 1 1 1;", "tide 1;", "find 1 1;"}) {
            edge(3, sixty, () -> fault(3, 420, 's', "rent 5;".repeat(60) + clause));
        }
        edge(3, sixty, () -> fault(1, 6, 's', "rent 5"));
        edge(3, sixty, () -> fault(1, 7, 's', "rent 5 rent 6;"));
        edge(3, sixty, () -> fault(1, 7, 's', "rent 5;;"));
        String houses = "HOUSES, numbered down the street from 0 on, 6 at most";
        edge(3, houses, () -> {
            TideLodger x = good(0, 's', "house 10;house 11;house 12;house 13;house 14;house 15;");
            due(6, "HOUSES", x.told(0));
            for (int house = 0; house < 6; house++) {
                due(10 + house, "SILL", x.house(house, 0));
            }
            missing("house(6, 0)", () -> x.house(6, 0));
            missing("house(-1, 0)", () -> x.house(-1, 0));
        });
        edge(3, houses, () -> fault(3, 48, 's', "house 1;".repeat(6) + "house 1;"));
        edge(3, houses, () -> fault(3, 68, 's', "house 1; ".repeat(6) + "tide 3;tide 4;house"));
        String sill = "SILL S, 0 to 40";
        edge(3, sill, () -> {
            TideLodger x = good(0, 's', "house 0;house 40;");
            row("SILLS", of(0, 40), x.house(0, 0), x.house(1, 0));
        });
        edge(3, sill, () -> fault(2, 6, 's', "house 41;"));
        edge(3, sill, () -> fault(1, 6, 's', "house -1;"));
    }

    private static void streetThings() {
        String ten = "THINGS likewise, 10:";
        edge(3, ten, () -> {
            StringBuilder text = new StringBuilder("house 0;");
            for (int thing = 0; thing < 10; thing++) {
                text.append("thing 0 1 1 ").append(20 + thing).append(";");
            }
            TideLodger x = good(10, 's', text.toString());
            for (int thing = 0; thing < 10; thing++) {
                due(20 + thing, "WORTH", x.thing(thing, 2));
            }
            due(1023, "THINGS in the HOUSE", x.house(0, 3));
            missing("thing(10, 0)", () -> x.thing(10, 0));
            missing("thing(-1, 0)", () -> x.thing(-1, 0));
        });
        edge(3, ten, () -> fault(3, 148, 's', "house 1;" + "thing 0 1 1 1;".repeat(11)));
        String ahead = "in HOUSE H, told ahead";
        edge(3, ahead, () -> {
            TideLodger x = good(2, 's', "house 1;thing 0 1 1 1;house 2;house 3;thing 2 1 1 1;");
            row("HOUSES of them", of(0, 2), x.thing(0, 3), x.thing(1, 3));
        });
        edge(3, ahead, () -> fault(2, 14, 's', "house 1;thing 1 1 1 1;"));
        edge(3, ahead, () -> fault(2, 14, 's', "house 1;thing 1 1 1 1;house 2;"));
        edge(3, ahead, () -> fault(2, 6, 's', "thing 0 1 1 1;house 1;"));
        edge(3, ahead, () -> fault(2, 54, 's', "house 1;".repeat(6) + "thing 6 1 1 1;"));
        String weight = "WEIGHT W, 1 to 9";
        edge(3, weight, () -> {
            TideLodger x = good(2, 's', "house 1;thing 0 1 2 2;thing 0 9 2 2;");
            row("WEIGHTS", of(1, 9), x.thing(0, 0), x.thing(1, 0));
        });
        edge(3, weight, () -> fault(2, 16, 's', "house 1;thing 0 0 2 2;"));
        edge(3, weight, () -> fault(2, 16, 's', "house 1;thing 0 10 2 2;"));
        String floats = "floats in water of F, 1 to 20";
        edge(3, floats, () -> {
            TideLodger x = good(2, 's', "house 1;thing 0 2 1 2;thing 0 2 20 2;");
            row("F", of(1, 20), x.thing(0, 1), x.thing(1, 1));
        });
        edge(3, floats, () -> fault(2, 18, 's', "house 1;thing 0 2 0 2;"));
        edge(3, floats, () -> fault(2, 18, 's', "house 1;thing 0 2 21 2;"));
        String worth = "WORTH V, 0 to 40)";
        edge(3, worth, () -> {
            TideLodger x = good(2, 's', "house 1;thing 0 2 2 0;thing 0 2 2 40;");
            row("WORTHS", of(0, 40), x.thing(0, 2), x.thing(1, 2));
        });
        edge(3, worth, () -> fault(2, 20, 's', "house 1;thing 0 2 2 41;"));
    }

    private static void streetTides() {
        String twelve = "(TIDES likewise, 12: HEIGHT A, 0 to 60;";
        edge(3, twelve, () -> {
            TideLodger x = good(0, 's', "tide 0;tide 60;" + "tide 3;".repeat(9) + "tide 4;");
            due(12, "TIDES", x.told(2));
            row("HEIGHTS", of(0, 60, 3, 4), x.height(0), x.height(1), x.height(10), x.height(11));
        });
        edge(3, twelve, () -> fault(3, 84, 's', "tide 1;".repeat(13)));
        edge(3, twelve, () -> fault(2, 5, 's', "tide 61;"));
        String again = "behind the last told one the first is there again;";
        edge(3, again, () -> {
            TideLodger x = in("tide 1;tide 2;tide 3;");
            row("HEIGHTS", of(1, 2, 3, 1, 2, 3, 1), x.height(0), x.height(1), x.height(2), x.height(3), x.height(4),
                    x.height(5), x.height(6));
            tides(x, 2);
            due(3, "the last told one", x.told(5));
            tides(x, 1);
            due(1, "the first again", x.told(5));
            tides(x, 1);
            due(2, "the second again", x.told(5));
        });
        edge(3, again, () -> {
            TideLodger x = in("tide 9;");
            row("one alone", of(9, 9, 9), x.height(0), x.height(1), x.height(99));
        });
        edge(3, "behind the last told one the first is there again; without any: 0)", () -> {
            TideLodger x = in("house 0;");
            row("HEIGHTS", of(0, 0, 0), x.told(5), x.height(0), x.height(99));
            tides(x, 1);
            row("behind one", of(0, 1), x.told(5), x.told(4));
        });
        String finds = "(FINDS likewise, 6: WORTH V, 1 to 40, left by Q of 16, 0 to 16)";
        edge(3, finds, () -> {
            TideLodger x = good(0, 's', "find 1 0;find 40 16;find 2 2;find 3 3;find 4 4;find 5 15;");
            due(6, "FINDS", x.told(3));
            row("FINDS", of(1, 0, 40, 16, 5, 15), x.find(0, 0), x.find(0, 1), x.find(1, 0), x.find(1, 1), x.find(5, 0),
                    x.find(5, 1));
            missing("find(6, 0)", () -> x.find(6, 0));
        });
        edge(3, finds, () -> fault(3, 54, 's', "find 1 1;".repeat(7)));
        edge(3, finds, () -> fault(2, 5, 's', "find 0 1;"));
        edge(3, finds, () -> fault(2, 5, 's', "find 41 1;"));
        edge(3, finds, () -> fault(2, 7, 's', "find 1 17;"));
    }

    private static void streetRentAndRope() {
        String rent = "\"rent\" R (0 to 40; 10 without; the last counts)";
        edge(3, rent, () -> {
            due(0, "R 0", good(0, 's', "rent 0;").told(6));
            due(40, "R 40", good(0, 's', "rent 40;").told(6));
        });
        edge(3, rent, () -> fault(2, 5, 's', "rent 41;"));
        edge(3, rent, () -> {
            TideLodger x = in("rent 3;");
            due(0, "street", street(x, "rope 1;"));
            due(10, "R, 10 without", x.told(6));
        });
        edge(3, rent, () -> due(7, "the last", in("rent 40;rent 9;rope 2;rent 7;").told(6)));
        String rope = "\"rope\" N (a rope holds N TIDES that pull, 1 to 9; 3 without; the last counts)";
        String floated = "house 0;thing 0 1 1 40;tide 1;";
        edge(3, rope, () -> {
            TideLodger x = in(floated + "rope 1;");
            due(1, "work", work(x, "tie 0;"));
            due(0, "a rope of 1", x.snaps(0));
            TideLodger y = in(floated + "rope 9;");
            due(1, "work", work(y, "tie 0;"));
            due(8, "a rope of 9", y.snaps(0));
        });
        edge(3, rope, () -> fault(2, 5, 's', "rope 0;"));
        edge(3, rope, () -> fault(2, 5, 's', "rope 10;"));
        edge(3, rope, () -> {
            TideLodger x = in(floated + "rope 8;");
            due(1, "street", street(x, floated));
            due(1, "work", work(x, "tie 0;"));
            due(2, "3 without", x.snaps(0));
        });
        edge(3, rope, () -> {
            TideLodger x = in("rope 1;" + floated + "rope 9;rent 1;rope 5;");
            due(1, "work", work(x, "tie 0;"));
            due(4, "the last", x.snaps(0));
        });
    }

    // ---- promise 4
    private static void lawCall() {
        String likewise = "Likewise the LAW (n to 150): 1.";
        edge(4, likewise, () -> {
            TideLodger x = full();
            TideLodger y = full();
            feed(x, "7" + " ".repeat(149) + "5");
            for (int n : of(-1, 151, 160, 161, Integer.MAX_VALUE, Integer.MIN_VALUE)) {
                illegal("law(" + n + ")", () -> x.law(n));
            }
            row("count(1), status(1)", of(160, 6), x.count(1), x.status(1));
            alike("behind law()", x, y);
            due(1, "law(150)", x.law(150));
            row("by it", of(7, 0), x.would(1, 0, 0, 0, 0, 0), x.count(1));
        });
        edge(4, likewise, () -> {
            TideLodger x = new TideLodger();
            feed(x, "1234");
            illegal("law(21) of twenty bytes", () -> x.law(21));
            due(1, "law(2)", x.law(2));
            row("by the first two bytes", of(12, 0), x.would(1, 0, 0, 0, 0, 0), x.count(1));
            illegal("law(1) of an empty TAPE", () -> x.law(1));
            due(-9, "law(0), no LAW", x.law(0));
            due(0, "its place", x.fault());
            due(12, "the LAW stays", x.would(1, 0, 0, 0, 0, 0));
        });
        edge(4, "A LAW is a text of up to 150 bytes", () -> {
            TideLodger x = new TideLodger();
            feed(x, " ".repeat(147) + "1+4");
            due(1, "law(150)", x.law(150));
            due(5, "by it", x.would(1, 0, 0, 0, 0, 0));
            due(1, "seventy-five numbers", law(x, "1+".repeat(74) + "1 "));
            due(75, "by it", x.would(1, 0, 0, 0, 0, 0));
            due(1, "seventy-five factors", law(x, "1*".repeat(74) + "8 "));
            due(8, "by it", x.would(1, 0, 0, 0, 0, 0));
        });
        edge(4, likewise, () -> {
            TideLodger x = full();
            TideLodger y = full();
            due(1, "the LAW changes nothing else", law(x, "depth + lost * 10 + rent + wet"));
            alike("behind law()", x, y);
        });
        String more = "E, at the end nothing more";
        edge(4, more, () -> fault(1, 2, 'l', "1 1"));
        edge(4, more, () -> fault(1, 1, 'l', "1;"));
        edge(4, more, () -> fault(1, 3, 'l', "(1))"));
        edge(4, more, () -> fault(1, 1, 'l', "1(2)"));
        edge(4, more, () -> fault(1, 0, 'l', ""));
        edge(4, more, () -> fault(1, 4, 'l', "    "));
        edge(4, "without: depth / 4 + lost * 3 - rent", () -> {
            TideLodger x = new TideLodger();
            row("would", of(0, 1, 0, 14, 45, 41), x.would(3, 0, 0, 0, 0, 0), x.would(4, 0, 0, 0, 0, 0),
                    x.would(4, 0, 9, 99, 1, 5), x.would(59, 0, 0, 0, 0, 0), x.would(60, 10, 10, 7, 0, 1),
                    x.would(60, 10, 0, 0, 4, 0));
        });
        edge(4, STAYS, () -> fault(1, 4, 'l', "999+"));
        edge(4, STAYS, () -> fault(2, 8, 'l', "1+(2+3)*1000"));
        edge(4, STAYS, () -> fault(3, 6, 'l', "((((((most[1,2]))))))"));
    }

    private static void lawNumbersAndNames() {
        String number = "U: N (0 to 999)";
        edge(4, number, () -> {
            lawIs(0, "0");
            lawIs(99, "999-900");
        });
        edge(4, number, () -> fault(2, 0, 'l', "1000"));
        edge(4, number, () -> fault(1, 0, 'l', "-1"));
        edge(4, "\"depth\" (of the water in it)", () -> lawIs(60, "depth"));
        edge(4, "\"lost\" (THINGS that this TIDE floats out of it)", () -> lawIs(1, "lost"));
        edge(4, "\"wet\" (THINGS that get wet in it)", () -> lawIs(2, "wet"));
        edge(4, "\"tide\" (number of the TIDE, from 0 on)", () -> {
            lawIs(13, "tide");
            TideLodger x = in("house 0;tide 1;tide 2;");
            due(1, "law", law(x, "tide + 1"));
            due(1, "TIDE 0", x.due(0));
            tides(x, 1);
            due(2, "TIDE 1", x.due(0));
            tides(x, 1);
            due(3, "TIDE 2, the first told one again", x.due(0));
        });
        edge(4, "\"moon\" (what is left of that by 8)", () -> {
            TideLodger x = new TideLodger();
            due(1, "law", law(x, "moon"));
            row("moon", of(0, 7, 0, 1, 7), x.would(1, 0, 0, 0, 0, 0), x.would(1, 0, 0, 7, 0, 0), x.would(1, 0, 0, 8, 0, 0),
                    x.would(1, 0, 0, 9, 0, 0), x.would(1, 0, 0, 999, 0, 0));
        });
        edge(4, "\"rent\" (R)", () -> {
            lawIs(4, "rent");
            TideLodger x = in("house 0;tide 1;rent 37;");
            due(1, "law", law(x, "rent"));
            due(37, "R of the STREET", x.due(0));
        });
        edge(4, "\"house\" (its number)", () -> {
            lawIs(5, "house");
            TideLodger x = in("house 0;house 0;tide 1;");
            due(1, "law", law(x, "house + 1"));
            row("both", of(1, 2), x.due(0), x.due(1));
        });
        edge(4, "\"least\" \"[\" E \",\" E \"]\"", () -> {
            lawIs(1, "least[1,2]");
            lawIs(1, "least[2,1]");
            lawIs(9, "least[1-2,1]+10");
        });
        edge(4, "\"most\" \"[\" E \",\" E \"]\"", () -> {
            lawIs(2, "most[1,2]");
            lawIs(2, "most[2,1]");
            lawIs(11, "most[1-2,1]+10");
        });
    }

    private static void lawValues() {
        String bounds = "what comes out, 0 at least, 99 at most.";
        edge(4, bounds, () -> {
            lawIs(0, "0-1");
            lawIs(0, "0-999*999");
            lawIs(0, "1-1");
            lawIs(1, "2-1");
        });
        edge(4, bounds, () -> {
            lawIs(98, "98");
            lawIs(99, "99");
            lawIs(99, "100");
            lawIs(99, "999*999");
        });
        edge(4, "E: T { + or - T }.", () -> {
            lawIs(5, "10-3-2");
            lawIs(9, "10-3+2");
            lawIs(11, "10-(1-2)");
            lawIs(14, "2+3*4");
            lawIs(10, "3*4-2");
        });
        edge(4, "T: U { * or / U }.", () -> {
            lawIs(2, "100/10/5");
            lawIs(50, "100/10*5");
            lawIs(6, "7*9/10");
            lawIs(20, "(2+3)*4");
        });
        // 512 * 512 * 512 is 2 to the 27, so that 16 of it are 2 to the 31: one more than the greatest value.
        edge(4, WRAP, () -> {
            lawIs(0, "512*512*512*16/999/999/99");
            lawIs(21, "(0-512*512*512*15-512*512*512)/999/999/99+42");
            lawIs(0, "512*512*512*32");
            lawIs(7, "512*512*512*32+7");
        });
        edge(4, WRAP, () -> {
            lawIs(21, "(512*512*512*15+(512*512*512-1))/999/999/99");
            lawIs(0, "(512*512*512*15+(512*512*512-1)+1)/999/999/99");
            lawIs(78, "(512*512*512*15+(512*512*512-1)+1)/999/999/99+99");
        });
        edge(4, WRAP, () -> {
            lawIs(0, "(0-512*512*512*15-512*512*512)/999/999/99");
            lawIs(21, "(0-512*512*512*15-512*512*512-1)/999/999/99");
        });
        edge(4, WRAP, () -> {
            lawIs(0, "(0-512*512*512*16)/(0-1)");
            lawIs(0, "0-512*512*512*16");
            lawIs(0, "most[512*512*512*16,0-1]");
            lawIs(5, "least[512*512*512*16,1]-512*512*512*16+5");
        });
        String cuts = "/ cuts, by 0 it is 0.";
        edge(4, cuts, () -> {
            lawIs(3, "7/2");
            lawIs(7, "(0-7)/2+10");
            lawIs(7, "7/(0-2)+10");
            lawIs(3, "(0-7)/(0-2)");
            lawIs(10, "(0-1)/2+10");
            lawIs(1, "999/999");
            lawIs(0, "998/999");
        });
        edge(4, cuts, () -> {
            lawIs(0, "7/0");
            lawIs(5, "7/0+5");
            lawIs(0, "0/0");
            lawIs(9, "9-8/(3-3)");
            lawIs(6, "(0-7)/(lost-1)+6");
        });
    }

    // ---- promises 5 to 7, as texts
    private static void workCall() {
        String likewise = "Likewise WORK (n to 150), which is done";
        edge(5, likewise, () -> {
            TideLodger x = full();
            TideLodger y = full();
            feed(x, "tide;" + " ".repeat(145) + "tide;");
            for (int n : of(-1, 151, 160, 161, Integer.MAX_VALUE, Integer.MIN_VALUE)) {
                illegal("work(" + n + ")", () -> x.work(n));
            }
            row("count(1), status(1)", of(160, 6), x.count(1), x.status(1));
            alike("behind work()", x, y);
            due(1, "work(150)", x.work(150));
            due(0, "count(1)", x.count(1));
        });
        edge(5, likewise, () -> {
            TideLodger x = in("tide 1;");
            feed(x, "tide;tide;");
            illegal("work(21) of twenty bytes", () -> x.work(21));
            due(1, "work(5), the first five bytes", x.work(5));
            row("TIDES, the TAPE", of(1, 0), x.told(4), x.count(1));
            illegal("work(1) of an empty TAPE", () -> x.work(1));
            due(0, "work(0), no STEPS", x.work(0));
        });
        edge(5, "WORK is a text of up to 150 bytes", () -> {
            TideLodger x = in("tide 1;");
            feed(x, "tide;".repeat(30));
            due(30, "work(150)", x.work(150));
            feed(x, " ".repeat(145) + "tide;");
            due(1, "work(150)", x.work(150));
            due(31, "TIDES", x.told(4));
        });
        edge(5, "or \"again\" N \"[\" { STEP \";\" } \"]\" (N 0 to 20)", () -> {
            TideLodger x = in("tide 1;");
            due(0, "again 0", work(x, "again 0[tide;];"));
            due(20, "again 20", work(x, "again 20[tide;];"));
            due(1, "again 1", work(x, "again 1[tide;];"));
            due(0, "again of no STEPS", work(x, "again 20[];again 0 [ ] ;"));
            due(21, "TIDES", x.told(4));
        });
        edge(5, "or \"again\" N \"[\" { STEP \";\" } \"]\" (N 0 to 20)", () -> fault(2, 11, 'w', "tide;again 21[];"));
        String none = "or the FAULT less 10 (none is)";
        edge(5, none, () -> fault(1, 15, 'w', "tide;bag 1;tide"));
        edge(5, none, () -> fault(2, 9, 'w', "tide;bag 3;tide;"));
        edge(5, none, () -> fault(3, 59, 'w', "tide;" + "again 1 [".repeat(6) + "again 1[tide;];"));
    }

    private static void stainsCall() {
        String likewise = "Likewise the STAINS (n to 60): how many lines.";
        edge(6, likewise, () -> {
            TideLodger x = full();
            TideLodger y = full();
            feed(x, "2 1;" + " ".repeat(70));
            for (int n : of(-1, 61, 80, 81, Integer.MAX_VALUE, Integer.MIN_VALUE)) {
                illegal("stains(" + n + ")", () -> x.stains(n));
            }
            row("count(1), status(1)", of(80, 6), x.count(1), x.status(1));
            alike("behind stains()", x, y);
            due(1, "stains(60)", x.stains(60));
            row("lines, the TAPE", of(1, 0), x.told(7), x.count(1));
        });
        edge(6, likewise, () -> {
            TideLodger x = in("house 0;house 0;");
            feed(x, "0 1;1 1;");
            illegal("stains(21) of twenty bytes", () -> x.stains(21));
            due(1, "stains(4), the first four bytes", x.stains(4));
            row("lines, the TAPE", of(1, 0), x.told(7), x.count(1));
            illegal("stains(1) of an empty TAPE", () -> x.stains(1));
            due(0, "stains(0), no lines", x.stains(0));
            due(0, "lines", x.told(7));
        });
        edge(6, "STAINS are a text of up to 60 bytes", () -> {
            TideLodger x = in("house 0;tide 9;");
            due(1, "sixty bytes", stains(x, " ".repeat(56) + "0 9;"));
            due(1, "in(0)", x.in(0));
        });
        edge(6, likewise, () -> {
            TideLodger x = full();
            TideLodger y = full();
            due(2, "the STAINS change nothing else", stains(x, "2 4;0 6;"));
            alike("behind stains()", x, y);
        });
        String six = "6 lines at most, no H twice";
        edge(6, six, () -> {
            TideLodger x = in("house 0;".repeat(6));
            due(6, "stains", stains(x, "5 1;4 2;3 3;2 4;1 5;0 6;"));
            due(6, "told(7)", x.told(7));
            due(-8, "a seventh", stains(x, "5 1;4 2;3 3;2 4;1 5;0 6;0 6;"));
            row("its place, the lines", of(24, 6), x.fault(), x.told(7));
        });
        edge(6, six, () -> fault(2, 4, 'm', "0 1;0 1;"));
        edge(6, six, () -> fault(2, 8, 'm', "1 1;2 2;1 3;"));
        edge(6, six, () -> fault(2, 0, 'm', "3 1;"));
        edge(6, six, () -> good(1, 'm', "2 1;"));
        String high = "in HOUSE H the highest stain is D high (0 to 60; 0: none)";
        edge(6, high, () -> {
            TideLodger x = in("house 0;house 0;tide 60;tide 0;");
            due(1, "stains", stains(x, "0 60;"));
            row("60 high", of(2, 1), x.in(0), x.in(2));
            due(1, "stains", stains(x, "0 0;"));
            row("none", of(1, 2), x.in(0), x.in(2));
        });
        edge(6, high, () -> fault(2, 2, 'm', "0 61;"));
        edge(6, STAYS, () -> fault(1, 8, 'm', "0 1;1 1;;"));
        edge(6, STAYS, () -> fault(1, 3, 'm', "1 1"));
    }

    private static void faultCall() {
        String latest = "The place of the FAULT of the latest text; NONE without.";
        edge(7, latest, () -> {
            TideLodger x = in("house 0;thing 0 1 1 1;");
            due(-9, "stains", stains(x, "0 1;  x"));
            due(6, "fault()", x.fault());
            due(6, "fault() again", x.fault());
            due(-9, "street", street(x, " x"));
            due(1, "fault()", x.fault());
            due(-9, "law", law(x, "1+x"));
            due(2, "fault()", x.fault());
            due(-8, "work", work(x, "lift 1;"));
            due(5, "fault()", x.fault());
        });
        for (char kind : new char[] {'s', 'l', 'w', 'm'}) {
            edge(7, latest, () -> {
                TideLodger x = in("house 0;thing 0 1 1 1;");
                due(-9, "a FAULT", law(x, "1 + "));
                due(4, "fault()", x.fault());
                String text = kind == 's' ? "rent 1;" : kind == 'l' ? "1" : kind == 'w' ? "lift 0;" : "0 1;";
                feed(x, text);
                due(kind == 's' ? 0 : 1, kind + " without a FAULT", kind == 's' ? x.street(7) : kind == 'l' ? x.law(1)
                        : kind == 'w' ? x.work(7) : x.stains(4));
                due(-1, "fault() behind " + kind, x.fault());
            });
        }
        edge(7, latest, () -> {
            TideLodger x = in("house 0;thing 0 1 1 1;");
            due(-9, "a FAULT", law(x, "+"));
            due(0, "a place of 0", x.fault());
            illegal("street(1)", () -> x.street(1));
            illegal("law(151)", () -> x.law(151));
            illegal("work(-1)", () -> x.work(-1));
            illegal("stains(61)", () -> x.stains(61));
            x.undo();
            x.image();
            x.restore();
            x.feed(0, 0, 0, 0, 0);
            due(0, "no text came", x.fault());
        });
    }

    // ---- what all texts are made of
    private static void numbersAndWords() {
        edge(3, DIGITS, () -> {
            TideLodger x = in("house 12;rent 0;rent 034;");
            row("SILL, R", of(12, 34), x.house(0, 0), x.told(6));
            due(0, "many noughts", street(x, "rent " + "0".repeat(590) + "9;"));
            due(9, "R", x.told(6));
        });
        edge(3, DIGITS, () -> fault(2, 6, 's', "house 400;"));
        edge(3, DIGITS, () -> fault(2, 6, 's', "house 10000000000000000000000000000000000;"));
        // 2 to the 32 and 2 to the 64, with 7 more: what wraps is 7.
        edge(3, DIGITS, () -> fault(2, 6, 's', "house 4294967303;"));
        edge(3, DIGITS, () -> fault(2, 6, 's', "house 18446744073709551623;"));
        edge(3, DIGITS, () -> fault(2, 6, 's', "house " + "9".repeat(594)));
        edge(4, DIGITS, () -> {
            lawIs(9, "0000009");
            lawIs(99, "0".repeat(147) + "999");
        });
        edge(4, DIGITS, () -> fault(2, 0, 'l', "4294967297"));
        edge(5, DIGITS, () -> due(2, "again 02", work(in("tide 1;"), "again 02[tide;];")));
        edge(5, DIGITS, () -> fault(2, 4, 'w', "bag 4294967296;"));
        edge(6, DIGITS, () -> due(1, "00 001", stains(in("house 0;"), "00 001;")));
        edge(6, DIGITS, () -> fault(2, 2, 'm', "0 4294967296;"));
        edge(4, DIGITS, () -> {
            TideLodger x = new TideLodger();
            feed(x, "77");
            due(1, "law(1): digits behind n do not stand there", x.law(1));
            due(7, "by it", x.would(1, 0, 0, 0, 0, 0));
        });
        edge(3, LETTERS, () -> fault(1, 0, 's', "houses 1;"));
        edge(3, LETTERS, () -> fault(1, 0, 's', "hous 1;"));
        edge(3, LETTERS, () -> fault(1, 0, 's', "renttide 1;"));
        edge(3, LETTERS, () -> fault(1, 0, 's', "House 1;"));
        edge(3, LETTERS, () -> fault(1, 4, 's', "rentT 1;"));
        edge(4, LETTERS, () -> fault(1, 0, 'l', "depthlost"));
        edge(4, LETTERS, () -> fault(1, 0, 'l', "leas[1,2]"));
        edge(5, LETTERS, () -> fault(1, 0, 'w', "tides;"));
        edge(5, LETTERS, () -> fault(1, 0, 'w', "lifts 0;"));
        edge(3, LETTERS, () -> fault(1, 0, 's', "renta 1;"));
        edge(3, LETTERS, () -> fault(1, 0, 's', "rentz 1;"));
        edge(3, LETTERS, () -> fault(1, 0, 's', "arent 1;"));
        edge(3, LETTERS, () -> fault(1, 0, 's', "zrent 1;"));
        // Next to the letters and digits stand ` and {, / and :.
        edge(3, LETTERS, () -> fault(1, 4, 's', "rent` 1;"));
        edge(3, LETTERS, () -> fault(1, 4, 's', "rent{ 1;"));
        edge(3, DIGITS, () -> fault(1, 6, 's', "rent 1/;"));
        edge(3, DIGITS, () -> fault(1, 6, 's', "rent 1:;"));
        edge(4, LETTERS, () -> {
            TideLodger x = new TideLodger();
            feed(x, "depths");
            due(1, "law(5): letters behind n do not stand there", x.law(5));
            due(8, "by it", x.would(8, 0, 0, 0, 0, 0));
        });
    }

    private static void blanks() {
        edge(3, BLANKS, () -> {
            TideLodger x = in("   house   3   ;   thing   0   1   2   3   ;   find   4   5   ;   ");
            row("all", of(1, 1, 1, 3, 3, 5), x.told(0), x.told(1), x.told(3), x.house(0, 0), x.thing(0, 2), x.find(0, 1));
            due(0, "blanks alone", street(x, "     "));
        });
        edge(3, BLANKS, () -> {
            TideLodger x = in("house3;thing0 1 2 3;tide4;find5 6;rent7;rope8;");
            row("none where none are needed", of(3, 3, 4, 6, 7), x.house(0, 0), x.thing(0, 2), x.told(5), x.find(0, 1),
                    x.told(6));
        });
        edge(4, BLANKS, () -> {
            lawIs(62, "  depth  *  (  1  )  +  least  [  wet  ,  3  ]  /  1  ");
            lawIs(62, "depth*(1)+least[wet,3]/1");
        });
        edge(5, BLANKS, () -> {
            TideLodger x = in("house 0;thing 0 1 1 1;");
            due(3, "many", work(x, "  again   2   [   tide   ;   ]   ;   lift   0   ;   "));
            due(3, "none", work(x, "again2[tide;];lower0;"));
            due(0, "blanks alone", work(x, "   "));
        });
        edge(6, BLANKS, () -> {
            TideLodger x = in("house 0;house 0;");
            due(2, "many", stains(x, "  1   2   ;   0   3   ;   "));
            due(0, "blanks alone", stains(x, "   "));
        });
        edge(3, BLANKS, () -> fault(1, 0, 's', "\thouse 1;"));
        edge(3, BLANKS, () -> fault(1, 8, 's', "house 1;\n"));
        edge(3, BLANKS, () -> fault(1, 8, 's', "house 1;" + (char) 0));
        edge(3, BLANKS, () -> fault(1, 5, 's', "house" + (char) 160 + "1;"));
        edge(3, BLANKS, () -> fault(1, 0, 's', "hou se 1;"));
        edge(3, BLANKS, () -> fault(1, 8, 's', "house 1 2;"));
        edge(4, BLANKS, () -> fault(1, 0, 'l', "de pth"));
        edge(4, BLANKS, () -> fault(1, 1, 'l', "1\n"));
    }

    // ---- FAULTS
    private static void faultsOfPlace() {
        for (String text : new String[] {"house", "house ", "house 1", "house 1 ", "house 1;thing 0 1 1", "find 1"}) {
            edge(3, PLACE, () -> fault(1, text.length(), 's', text));
        }
        for (String text : new String[] {"", " ", "1+", "1 * ", "(", "(1", "least", "least [", "most[1", "most[1,", "most[1,2"}) {
            edge(4, PLACE, () -> fault(1, text.length(), 'l', text));
        }
        for (String text : new String[] {"tide", "lift", "lift 0", "again", "again 2", "again 2[", "again 2[tide;", "again 2[]",
                "again 2 [ ] "}) {
            edge(5, PLACE, () -> fault(1, text.length(), 'w', text));
        }
        for (String text : new String[] {"0", "0 ", "0 1", "0 1 "}) {
            edge(6, PLACE, () -> fault(1, text.length(), 'm', text));
        }
        edge(3, PLACE, () -> fault(1, 2, 's', "  1;"));
        edge(3, PLACE, () -> fault(1, 6, 's', "house house 1;"));
        edge(3, PLACE, () -> fault(1, 6, 's', "house ;"));
        edge(3, PLACE, () -> fault(1, 0, 's', "lift 0;"));
        edge(4, PLACE, () -> fault(1, 2, 'l', "1+*1"));
        edge(4, PLACE, () -> fault(1, 1, 'l', "()"));
        edge(4, PLACE, () -> fault(1, 5, 'l', "least(1,2)"));
        edge(4, PLACE, () -> fault(1, 7, 'l', "least[1]"));
        edge(4, PLACE, () -> fault(1, 9, 'l', "least[1,2,3]"));
        edge(4, PLACE, () -> fault(1, 2, 'l', "(1]"));
        edge(4, PLACE, () -> fault(1, 0, 'l', "sill"));
        edge(5, PLACE, () -> fault(1, 5, 'w', "tide;];"));
        edge(5, PLACE, () -> fault(1, 0, 'w', "]"));
        edge(5, PLACE, () -> fault(1, 5, 'w', "tide 1;"));
        edge(5, PLACE, () -> fault(1, 8, 'w', "again 1 tide;"));
        edge(5, PLACE, () -> fault(1, 12, 'w', "again 1[tide];"));
        edge(5, PLACE, () -> fault(1, 14, 'w', "again 1[tide;]tide;"));
        edge(5, PLACE, () -> fault(1, 0, 'w', "house 1;"));
        edge(6, PLACE, () -> fault(1, 0, 'm', "x"));
        edge(6, PLACE, () -> fault(1, 1, 'm', "0;1;"));
    }

    private static void faultsOfNumbers() {
        edge(3, NONE_SUCH, () -> fault(2, 7, 's', "  tide 61;"));
        edge(5, NONE_SUCH, () -> fault(2, 5, 'w', "lift 4;"));
        edge(5, NONE_SUCH, () -> fault(2, 6, 'w', "lower 4;"));
        edge(5, NONE_SUCH, () -> fault(2, 4, 'w', "tie 4;"));
        edge(5, NONE_SUCH, () -> fault(2, 6, 'w', "untie 4;"));
        edge(5, NONE_SUCH, () -> fault(2, 4, 'w', "bag 3;"));
        edge(5, NONE_SUCH, () -> {
            TideLodger x = good(5, 'w', "tie 3;untie 3;lift 3;lower 3;bag 2;");
            due(2, "bags", x.house(2, 1));
        });
        edge(6, NONE_SUCH, () -> fault(2, 4, 'm', "0 1;0 2;"));
        edge(6, NONE_SUCH, () -> fault(2, 5, 'm', "0 1; 00 2;"));
        edge(6, NONE_SUCH, () -> good(3, 'm', "0 1;2 1;1 1;"));
    }

    private static void faultsOfMany() {
        String six = "house 1;".repeat(6);
        edge(3, AT_ITS_WORD, () -> fault(3, 50, 's', six + "  house 1;"));
        edge(3, AT_ITS_WORD, () -> fault(3, 48, 's', six + "house"));
        edge(3, AT_ITS_WORD, () -> fault(3, 48, 's', six + "house 41;"));
        edge(3, AT_ITS_WORD, () -> fault(3, 148, 's', "house 1;" + "thing 0 1 1 1;".repeat(10) + "thing 9 9 9 9;"));
        edge(3, AT_ITS_WORD, () -> fault(3, 84, 's', "tide 1;".repeat(12) + "tide 99;"));
        edge(3, AT_ITS_WORD, () -> fault(3, 54, 's', "find 1 1;".repeat(6) + "find"));
        edge(3, AT_ITS_WORD, () -> fault(3, 421, 's', "rope 1;".repeat(60) + " rent 99;"));
        edge(3, AT_ITS_WORD, () -> {
            TideLodger x = good(10, 's', six + "thing 0 1 1 1;".repeat(10) + "tide 1;".repeat(12) + "find 1 1;".repeat(6)
                    + "rent 1;".repeat(26));
            row("all full", of(6, 10, 12, 6, 1), x.told(0), x.told(1), x.told(2), x.told(3), x.told(6));
        });
    }

    private static void faultsOfOpenOnes() {
        edge(4, SEVENTH, () -> {
            lawIs(1, "((((((1))))))");
            lawIs(2, "least[2,least[2,least[2,least[2,least[2,least[2,3]]]]]]");
            lawIs(3, "most[2,most[2,most[2,most[2,most[2,most[2,3]]]]]]");
        });
        edge(4, SEVENTH, () -> {
            lawIs(9, "(1)+(1)+(1)+(1)+(1)+(1)+(1)+(1)+(1)");
            lawIs(1, "((((((1)))))*(((((1))))))");
            lawIs(3, "((((((1))+((1))+((1))))))");
        });
        edge(4, SEVENTH, () -> lawIs(1, "(least[(most[(least[1,2]),0]),3])"));
        edge(4, SEVENTH, () -> fault(3, 6, 'l', "(((((((1)))))))"));
        edge(4, SEVENTH, () -> fault(3, 6, 'l', "((((((least[1,2]))))))"));
        edge(4, SEVENTH, () -> fault(3, 6, 'l', "((((((most[1,2]))))))"));
        edge(4, SEVENTH, () -> fault(3, 18, 'l', "((((((1)))))*((((((1)))))))"));
        edge(4, SEVENTH, () -> fault(3, 35, 'l', "least[most[least[most[least[most[1,(2)],2],2],2],2],2]"));
        edge(4, SEVENTH, () -> fault(3, 30, 'l', "least[1,(most[2,(least[3,(1)+((2))])])]"));
        edge(5, SEVENTH, () -> {
            TideLodger x = in("tide 1;");
            due(1, "six", work(x, "again 1[again 1[again 1[again 1[again 1[again 1[tide;];];];];];];"));
            due(7, "seven, one at a time", work(x, "again 1[tide;];".repeat(7)));
            due(2, "two sixths", work(x, "again1[again1[again1[again1[again1[again1[tide;];again1[tide;];];];];];];"));
        });
        edge(5, SEVENTH, () -> fault(3, 48, 'w', "again 1[".repeat(7) + "tide;" + "];".repeat(7)));
        edge(5, SEVENTH, () -> fault(3, 49, 'w', "again 1[".repeat(6) + " again"));
        edge(5, SEVENTH, () -> fault(3, 57, 'w', "again 1[".repeat(6) + "];again1[again 1["));
    }

    private static void firstOfFaults() {
        String first = "FAULTS, the first from the left, at its first byte";
        edge(3, first, () -> fault(2, 6, 's', "house 41;hous 1;"));
        edge(3, first, () -> fault(1, 0, 's', "hous 1;house 41;"));
        edge(3, first, () -> fault(2, 6, 's', "house 41"));
        edge(3, first, () -> fault(2, 14, 's', "house 1;thing 7 0 0 99;"));
        edge(3, first, () -> fault(2, 7, 's', "house  4100;"));
        edge(3, first, () -> fault(1, 2, 's', "  houses 1;"));
        edge(4, first, () -> fault(2, 1, 'l', "(1000"));
        edge(4, first, () -> fault(2, 0, 'l', "1000 1"));
        edge(4, first, () -> fault(1, 2, 'l', "1 1000"));
        edge(4, first, () -> fault(3, 6, 'l', "((((((((1000"));
        edge(5, first, () -> fault(2, 5, 'w', "lift 9 lift;"));
        edge(5, first, () -> fault(1, 0, 'w', "lifted 9;"));
        edge(5, first, () -> fault(2, 6, 'w', "again 99["));
        edge(6, first, () -> fault(2, 0, 'm', "9 99"));
        edge(6, first, () -> fault(2, 2, 'm', "0 99"));
        String least = "that is open at one time; of one the least.";
        edge(3, least, () -> fault(1, 420, 's', "rent 5;".repeat(60) + "rents 1;"));
        edge(3, least, () -> fault(1, 420, 's', "rent 5;".repeat(60) + ";"));
        edge(3, least, () -> fault(1, 420, 's', "rent 5;".repeat(60) + "5"));
        edge(4, least, () -> fault(1, 6, 'l', "((((((leasts[1,2]))))))"));
        edge(4, least, () -> fault(1, 1, 'l', "1(((((((1)))))))"));
        edge(5, least, () -> fault(1, 48, 'w', "again 1[".repeat(6) + "agains 1["));
    }
}
