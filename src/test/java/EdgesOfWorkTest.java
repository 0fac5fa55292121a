/** Edges of promises 5 and 8: the STEPS of a WORK, what a TIDE does, and WORKS that are undone. */
public final class EdgesOfWorkTest extends Edges {
    private static final String ORDER = "STEPS are done in order; one that can't be done is REFUSED, and changes nothing";
    private static final String MOST = "200 STEPS at most are begun by one WORK (an again, too, each time it is come to; "
            + "REFUSED ones, too), what would come behind is left out.";
    private static final String LIFT = "lift: T is up (REFUSED, if it is up, tied or GONE)";
    private static final String LOWER = "lower: down (REFUSED, if it is not up)";
    private static final String TIE = "tie: it is tied with a new rope (REFUSED, if it is tied, up or GONE)";
    private static final String UNTIE = "untie: it is not (REFUSED, if it is not tied)";
    private static final String BAG = "bag: H has one bag more (REFUSED, if it has 9).";
    private static final String LAST = "tide (REFUSED from TIDE 500 on)";
    private static final String WATER = "HEIGHT less SILL and 2 for each bag, 0 at least; a TIDE is in a HOUSE, if that is "
            + "above 0.";
    private static final String WET = "THINGS that are down in a HOUSE it is in get wet: WORTH less 1 (0 at least).";
    private static final String FLOAT = "Such ones that float (F no more than WATER) and are not tied float into the next "
            + "HOUSE (from the last one they are GONE)";
    private static final String ROPE = "a rope of one that floats is worn by one; at N it breaks (the THING is not tied then, "
            + "but does not float in this TIDE).";
    private static final String DUES = "DUES are paid to HOUSES it is in (all counted by this TIDE).";
    private static final String FULL = "-20 behind the exception, ahead of the FAULT (nothing is read, there is no FAULT, the "
            + "TAPE is empty then): 16 WORKS are there that were not undone.";
    private static final String UNDO = "The latest WORK that was done (of no STEPS, or with all of them REFUSED, too) is "
            + "undone: how many are left; -1: there is none.";

    /** THING 0 floats by each TIDE, THING 1 by none. */
    private static final String TWO = "house 0;thing 0 1 1 9;thing 0 2 20 9;tide 1;";

    private EdgesOfWorkTest() { }

    public static void main(String[] args) {
        watch();
        atFirst();
        water();
        order();
        stepsAtMost();
        lifting();
        tying();
        bags();
        lastTide();
        gettingWet();
        floating();
        ropes();
        dues();
        counted();
        fullOfWorks();
        undoing();
        end("EdgesOfWorkTest", 5, 5);
    }

    private static void atFirst() {
        edge(5, "TIDE 0 is to come at first; THINGS are down in their HOUSES, untied, dry; no bags, nothing is paid.", () -> {
            TideLodger x = in("house 3;house 4;thing 1 2 3 4;thing 0 5 6 7;tide 60;");
            due(0, "the TIDE to come", x.told(4));
            row("thing(0)", of(2, 3, 4, 1, 0, 0, 0), x.thing(0, 0), x.thing(0, 1), x.thing(0, 2), x.thing(0, 3),
                    x.thing(0, 4), x.thing(0, 5), x.thing(0, 6));
            row("thing(1)", of(5, 6, 7, 0, 0, 0, 0), x.thing(1, 0), x.thing(1, 1), x.thing(1, 2), x.thing(1, 3),
                    x.thing(1, 4), x.thing(1, 5), x.thing(1, 6));
            row("bags, paid", of(3, 0, 0, 4, 0, 0, 0), x.house(0, 0), x.house(0, 1), x.house(0, 4), x.house(1, 0),
                    x.house(1, 1), x.house(1, 4), x.told(11));
        });
        edge(5, "TIDE 0 is to come at first; THINGS are down in their HOUSES, untied, dry; no bags, nothing is paid.", () -> {
            TideLodger x = full();
            due(4, "the same STREET", street(x, STREET));
            due(1, "the same LAW", law(x, "depth + lost * 10 + rent + wet"));
            TideLodger y = in(STREET);
            due(1, "the same LAW", law(y, "depth + lost * 10 + rent + wet"));
            alikeNow("behind a STREET as at first", x, y);
        });
    }

    private static void water() {
        edge(5, WATER, () -> {
            TideLodger x = in("house 5;house 6;house 4;tide 5;rent 0;");
            due(1, "law", law(x, "50"));
            row("WATER", of(0, 0, 1), x.house(0, 2), x.house(1, 2), x.house(2, 2));
            row("DUE", of(0, 0, 50), x.due(0), x.due(1), x.due(2));
            tides(x, 1);
            row("paid", of(0, 0, 50), x.house(0, 4), x.house(1, 4), x.house(2, 4));
        });
        edge(5, WATER, () -> {
            TideLodger x = in("house 40;house 0;tide 60;tide 0;");
            row("WATER by the highest", of(20, 60), x.house(0, 2), x.house(1, 2));
            tides(x, 1);
            row("WATER by the lowest", of(0, 0), x.house(0, 2), x.house(1, 2));
        });
        edge(5, WATER, () -> {
            TideLodger x = in("house 3;tide 6;");
            due(1, "work", work(x, "bag 0;"));
            row("one bag", of(5, 1, 1), x.house(0, 0), x.house(0, 1), x.house(0, 2));
            due(1, "work", work(x, "bag 0;"));
            row("two bags", of(7, 2, 0), x.house(0, 0), x.house(0, 1), x.house(0, 2));
        });
        edge(5, WATER, () -> {
            TideLodger x = in("house 40;tide 60;tide 58;tide 59;");
            due(9, "work", work(x, "again 9[bag 0;];"));
            row("nine bags on the highest SILL", of(58, 2), x.house(0, 0), x.house(0, 2));
            tides(x, 1);
            due(0, "WATER", x.house(0, 2));
            tides(x, 1);
            due(1, "WATER", x.house(0, 2));
        });
    }

    private static void order() {
        edge(5, ORDER, () -> {
            StringBuilder street = new StringBuilder();
            for (int i = 0; i < 6; i++) {
                street.append("house ").append(i).append(";");
            }
            for (int i = 0; i < 10; i++) {
                street.append("thing ").append(i % 6).append(" 1 1 ").append(20 + i).append(";");
            }
            for (int i = 0; i < 10; i++) {
                TideLodger x = in(street + "tide 9;rent 0;");
                int house = i % 6;
                due(3, "STEPS for THING " + i + " alone", work(x, "tie " + i + ";bag " + house + ";tide;"));
                for (int other = 0; other < 10; other++) {
                    int on = other % 6 == 5 ? -1 : other % 6 + 1;
                    row("thing(" + other + ")", other == i ? of(19 + i, house, 0, 1, 1) : of(19 + other, on, 0, 0, 0),
                            x.thing(other, 2), x.thing(other, 3), x.thing(other, 4), x.thing(other, 5), x.thing(other, 6));
                }
                for (int other = 0; other < 6; other++) {
                    row("house(" + other + ")", of(other == house ? 2 + other : other, other == house ? 1 : 0),
                            x.house(other, 0), x.house(other, 1));
                }
                due(3, "STEPS", work(x, "untie " + i + ";lift " + i + ";bag " + house + ";"));
                for (int other = 0; other < 10; other++) {
                    row("up, tied", of(other == i ? 1 : 0, 0), x.thing(other, 4), x.thing(other, 5));
                }
            }
        });
        edge(5, ORDER, () -> {
            TideLodger x = in(TWO);
            due(2, "work", work(x, "lift 0;tide;"));
            row("lifted ahead of the TIDE", of(9, 0, 1), x.thing(0, 2), x.thing(0, 3), x.thing(0, 4));
            TideLodger y = in(TWO);
            due(1, "work", work(y, "tide;lift 0;"));
            row("lifted behind it", of(8, -1, 0), y.thing(0, 2), y.thing(0, 3), y.thing(0, 4));
            due(1, "REFUSED", y.told(8));
        });
        edge(5, ORDER, () -> {
            TideLodger x = in(TWO);
            due(3, "what stands behind a REFUSED one is done", work(x, "lower 1;tide;untie 1;lift 1;bag 0;"));
            row("REFUSED, TIDES, up, bags", of(2, 1, 1, 1), x.told(8), x.told(4), x.thing(1, 4), x.house(0, 1));
        });
        edge(5, ORDER, () -> {
            TideLodger x = in(TWO);
            due(8, "agains, too", work(x, "again 2[bag 0;again 2[tide;];bag 0;];"));
            row("TIDES, bags", of(4, 4), x.told(4), x.house(0, 1));
            TideLodger y = in("house 0;tide 3;");
            due(4, "STEPS behind an again", work(y, "again 1[tide;];tide;bag 0;bag 0;"));
            row("TIDES, bags", of(2, 2), y.told(4), y.house(0, 1));
        });
    }

    /** So many STEPS are begun ahead of a bag: 1 by the outer again, each of eighteen times ten inner ones and one. */
    private static void ahead(int more, String inner, int bags, int refused) {
        TideLodger x = in("house 0;thing 0 1 20 1;tide 1;");
        String text = "lower 0;".repeat(more) + "again18[again10[" + inner + "];];bag 0;";
        due(bags + (inner.equals("tide;") ? 180 : 0), text, work(x, text));
        row("bags, REFUSED", of(bags, refused), x.house(0, 1), x.told(8));
    }

    private static void stepsAtMost() {
        edge(5, MOST, () -> ahead(0, "tide;", 1, 0));
        edge(5, MOST, () -> ahead(1, "tide;", 0, 1));
        edge(5, MOST, () -> ahead(0, "again0[];", 1, 0));
        edge(5, MOST, () -> ahead(1, "again0[];", 0, 1));
        edge(5, MOST, () -> ahead(0, "lower 0;", 1, 180));
        edge(5, MOST, () -> ahead(1, "lower 0;", 0, 181));
        edge(5, MOST, () -> {
            TideLodger x = in("tide 1;");
            due(199, "the again and 199 of its 200 TIDES", work(x, "again 20[" + "tide;".repeat(10) + "];"));
            row("TIDES, REFUSED", of(199, 0), x.told(4), x.told(8));
            due(1, "the next WORK begins anew", work(x, "tide;"));
        });
        edge(5, MOST, () -> {
            TideLodger x = in("house 0;thing 0 1 20 1;");
            due(0, "all REFUSED", work(x, "again 20[again 20[untie 0;];];lower 0;"));
            // 1, then 21 for each of nine rounds, then an again and nine more.
            due(189, "REFUSED", x.told(8));
        });
        edge(5, MOST, () -> {
            TideLodger x = in("tide 1;");
            due(190, "199 are begun by an again", work(x, "again 19[" + "tide;".repeat(10) + "];"));
            due(199, "200 by one of nineteen rounds", work(x, "again 19[" + "tide;".repeat(10) + "];" + "tide;".repeat(11)));
            due(389, "TIDES", x.told(4));
        });
        edge(5, MOST, () -> {
            TideLodger x = in("house 0;");
            due(1, "169 agains, then a bag", work(x, "again 8[again 20[again 9[];];];bag 0;"));
            due(1, "a bag and 199 agains", work(x, "bag 0;again 20[" + "again 20[];".repeat(10) + "];bag 0;"));
            due(2, "bags", x.house(0, 1));
        });
    }

    /** A STEP that is REFUSED behind these STEPS, and changes nothing. */
    private static void refusedStep(String sentence, String street, String ahead, String step) {
        edge(5, sentence, () -> {
            TideLodger x = in(street);
            TideLodger y = in(street);
            int done = work(x, ahead);
            due(done, ahead, work(y, ahead));
            due(0, "REFUSED ahead of it", x.told(8));
            due(0, step, work(x, step));
            due(1, "REFUSED by " + step, x.told(8));
            due(0, "nothing", work(y, ""));
            alikeButRefused("behind " + step, x, y);
        });
    }

    private static void lifting() {
        edge(5, LIFT, () -> {
            TideLodger x = in(TWO);
            due(2, "work", work(x, "lift 0;lift 1;"));
            row("up", of(1, 1, 0), x.thing(0, 4), x.thing(1, 4), x.thing(0, 3));
        });
        refusedStep(LIFT, TWO, "lift 0;", "lift 0;");
        refusedStep(LIFT, TWO, "tie 0;", "lift 0;");
        refusedStep(LIFT, TWO, "tie 0;tide;", "lift 0;");
        refusedStep(LIFT, TWO, "tide;", "lift 0;");
        edge(5, LIFT, () -> {
            TideLodger x = in(TWO);
            due(6, "what was untied, or lowered, can be lifted", work(x, "tie 0;untie 0;lift 0;lower 0;lift 0;tide;"));
            due(1, "up", x.thing(0, 4));
        });
        edge(5, LOWER, () -> {
            TideLodger x = in(TWO);
            due(3, "work", work(x, "lift 0;tide;lower 0;"));
            row("down", of(9, 0, 0), x.thing(0, 2), x.thing(0, 3), x.thing(0, 4));
            due(1, "it floats as others do", work(x, "tide;"));
            row("GONE", of(8, -1), x.thing(0, 2), x.thing(0, 3));
        });
        refusedStep(LOWER, TWO, "", "lower 0;");
        refusedStep(LOWER, TWO, "lift 0;lower 0;", "lower 0;");
        refusedStep(LOWER, TWO, "tie 0;", "lower 0;");
        refusedStep(LOWER, TWO, "tide;", "lower 0;");
    }

    private static void tying() {
        edge(5, TIE, () -> {
            TideLodger x = in(TWO);
            due(1, "work", work(x, "tie 0;"));
            row("tied", of(1, 0, 0, 0), x.thing(0, 5), x.thing(0, 6), x.thing(0, 4), x.thing(0, 3));
        });
        edge(5, TIE, () -> {
            TideLodger x = in(TWO);
            due(5, "work", work(x, "tie 0;tide;tide;untie 0;tie 0;"));
            row("a new rope", of(1, 0), x.thing(0, 5), x.thing(0, 6));
            due(2, "it breaks by the third", x.snaps(0));
            due(3, "work", work(x, "tide;tide;tide;"));
            row("broken", of(0, 0, 0), x.thing(0, 5), x.thing(0, 6), x.thing(0, 3));
            due(1, "tied anew", work(x, "tie 0;"));
            row("a new rope", of(1, 0), x.thing(0, 5), x.thing(0, 6));
            due(2, "it breaks by the third", x.snaps(0));
        });
        refusedStep(TIE, TWO, "tie 0;", "tie 0;");
        refusedStep(TIE, TWO, "tie 0;tide;tide;", "tie 0;");
        refusedStep(TIE, TWO, "lift 0;", "tie 0;");
        refusedStep(TIE, TWO, "tide;", "tie 0;");
        edge(5, UNTIE, () -> {
            TideLodger x = in(TWO);
            due(4, "work", work(x, "tie 0;tide;tide;untie 0;"));
            row("untied", of(0, 0, 0), x.thing(0, 5), x.thing(0, 6), x.thing(0, 3));
            due(1, "it floats", work(x, "tide;"));
            due(-1, "GONE", x.thing(0, 3));
        });
        refusedStep(UNTIE, TWO, "", "untie 0;");
        refusedStep(UNTIE, TWO, "tie 0;untie 0;", "untie 0;");
        refusedStep(UNTIE, TWO, "lift 0;", "untie 0;");
        refusedStep(UNTIE, TWO, "tide;", "untie 0;");
        refusedStep(UNTIE, TWO + "rope 1;", "tie 0;tide;", "untie 0;");
    }

    private static void bags() {
        edge(5, BAG, () -> {
            TideLodger x = in("house 0;house 4;");
            for (int bags = 1; bags <= 9; bags++) {
                due(1, "work", work(x, "bag 1;"));
                row("bags", of(bags, 4 + 2 * bags, 0, 0), x.house(1, 1), x.house(1, 0), x.house(0, 1), x.house(0, 0));
            }
        });
        refusedStep(BAG, "house 0;house 0;tide 60;", "again 9[bag 1;];", "bag 1;");
        edge(5, BAG, () -> {
            TideLodger x = in("house 0;house 0;");
            due(18, "nine in each", work(x, "again 11[bag 0;bag 1;];"));
            row("REFUSED, bags", of(4, 9, 9), x.told(8), x.house(0, 1), x.house(1, 1));
        });
    }

    private static void lastTide() {
        edge(5, LAST, () -> {
            TideLodger x = in("house 0;tide 1;tide 2;rent 0;");
            tides(x, 499);
            due(499, "TIDE 499 is to come", x.told(4));
            due(1, "it comes", work(x, "tide;"));
            row("REFUSED, TIDES", of(0, 500), x.told(8), x.told(4));
            due(0, "TIDE 500 does not", work(x, "tide;"));
            row("REFUSED, TIDES", of(1, 500), x.told(8), x.told(4));
            due(0, "no more", work(x, "tide;tide;tide;"));
            row("REFUSED, TIDES", of(3, 500), x.told(8), x.told(4));
        });
        edge(5, LAST, () -> {
            TideLodger x = in(TWO);
            due(1, "work", work(x, "lift 0;"));
            tides(x, 500);
            due(2, "other STEPS are done", work(x, "tide;lower 0;tide;bag 0;"));
            row("THING 0 is as it was", of(9, 0, 0, 500, 2), x.thing(0, 2), x.thing(0, 3), x.thing(0, 4), x.told(4), x.told(8));
            due(6, "undo", x.undo());
            due(5, "undo", x.undo());
            due(400, "TIDES", x.told(4));
            due(1, "it comes again", work(x, "tide;"));
        });
        edge(5, LAST, () -> {
            TideLodger x = in(TWO);
            due(1, "law", law(x, "7"));
            tides(x, 500);
            due(3500, "paid", x.told(11));
            due(0, "work", work(x, "tide;"));
            row("WORTH, paid", of(0, 3500), x.thing(1, 2), x.told(11));
        });
    }

    private static void gettingWet() {
        edge(5, WET, () -> {
            TideLodger x = in("house 0;thing 0 1 20 2;tide 1;");
            row("WORTH", of(2), x.thing(0, 2));
            tides(x, 1);
            due(1, "WORTH", x.thing(0, 2));
            tides(x, 1);
            due(0, "WORTH", x.thing(0, 2));
            tides(x, 1);
            due(0, "WORTH, 0 at least", x.thing(0, 2));
        });
        edge(5, WET, () -> {
            TideLodger x = in("house 0;thing 0 1 20 0;tide 1;");
            due(1, "law", law(x, "wet * 10"));
            due(10, "what is worth nothing gets wet, too", x.due(0));
            tides(x, 1);
            row("WORTH, paid", of(0, 10), x.thing(0, 2), x.told(11));
        });
        edge(5, WET, () -> {
            TideLodger x = in("house 3;house 2;thing 0 1 20 5;thing 1 1 20 5;tide 3;");
            tides(x, 1);
            row("no TIDE in HOUSE 0", of(5, 4), x.thing(0, 2), x.thing(1, 2));
        });
        edge(5, WET, () -> {
            TideLodger x = in("house 0;thing 0 1 20 5;thing 0 1 20 5;thing 0 1 1 5;tide 1;");
            due(3, "work", work(x, "lift 0;tie 1;tide;"));
            row("up, tied, afloat", of(5, 4, 4), x.thing(0, 2), x.thing(1, 2), x.thing(2, 2));
            tides(x, 1);
            due(4, "what is GONE gets wet no more", x.thing(2, 2));
        });
    }

    private static void floating() {
        edge(5, FLOAT, () -> {
            TideLodger x = in("house 2;house 40;thing 0 1 5 5;thing 0 1 6 5;thing 0 1 4 5;tide 7;");
            tides(x, 1);
            row("by WATER of 5", of(1, 0, 1), x.thing(0, 3), x.thing(1, 3), x.thing(2, 3));
        });
        edge(5, FLOAT, () -> {
            TideLodger x = in("house 0;house 0;house 0;thing 0 1 1 9;thing 1 1 1 9;thing 2 1 1 9;tide 1;");
            tides(x, 1);
            row("one HOUSE on", of(1, 2, -1), x.thing(0, 3), x.thing(1, 3), x.thing(2, 3));
            row("wet once", of(8, 8, 8), x.thing(0, 2), x.thing(1, 2), x.thing(2, 2));
            tides(x, 1);
            row("one more", of(2, -1, -1), x.thing(0, 3), x.thing(1, 3), x.thing(2, 3));
            row("wet twice", of(7, 7, 8), x.thing(0, 2), x.thing(1, 2), x.thing(2, 2));
            row("GONE, WORTH", of(2, 7), x.told(9), x.told(10));
        });
        edge(5, FLOAT, () -> {
            TideLodger x = in("house 0;house 0;thing 1 1 1 9;thing 0 1 1 9;tide 1;");
            tides(x, 1);
            row("told the other way round", of(-1, 1, 8, 8), x.thing(0, 3), x.thing(1, 3), x.thing(0, 2), x.thing(1, 2));
        });
        edge(5, FLOAT, () -> {
            TideLodger x = in("house 0;".repeat(6) + "thing 5 1 1 9;thing 4 1 1 9;tide 1;");
            tides(x, 1);
            row("from the sixth HOUSE, from the fifth", of(-1, 5), x.thing(0, 3), x.thing(1, 3));
        });
        edge(5, FLOAT, () -> {
            TideLodger x = in("house 0;thing 0 1 1 9;thing 0 1 20 9;tide 1;tide 20;");
            due(2, "work", work(x, "tie 0;tide;"));
            row("tied, too heavy", of(0, 0), x.thing(0, 3), x.thing(1, 3));
            tides(x, 1);
            row("tied, not too heavy", of(0, -1), x.thing(0, 3), x.thing(1, 3));
        });
    }

    private static void ropes() {
        edge(5, ROPE, () -> {
            TideLodger x = in("house 2;thing 0 1 5 9;tide 7;tide 6;tide 2;tide 60;rope 3;");
            due(2, "work", work(x, "tie 0;tide;"));
            due(1, "worn by WATER of F", x.thing(0, 6));
            tides(x, 1);
            due(1, "not worn by less", x.thing(0, 6));
            tides(x, 1);
            due(1, "not worn by none", x.thing(0, 6));
            tides(x, 1);
            row("worn by more, by one", of(2, 1, 6), x.thing(0, 6), x.thing(0, 5), x.thing(0, 2));
        });
        for (int holds : of(1, 2, 9)) {
            edge(5, ROPE, () -> {
                TideLodger x = in("house 0;house 0;thing 0 1 1 40;tide 1;rope " + holds + ";");
                due(1, "work", work(x, "tie 0;"));
                for (int worn = 1; worn < holds; worn++) {
                    tides(x, 1);
                    row("tied", of(1, worn, 0), x.thing(0, 5), x.thing(0, 6), x.thing(0, 3));
                }
                tides(x, 1);
                row("broken, not afloat", of(0, 0, 0, 40 - holds), x.thing(0, 5), x.thing(0, 6), x.thing(0, 3), x.thing(0, 2));
                tides(x, 1);
                row("afloat by the next", of(0, 0, 1), x.thing(0, 5), x.thing(0, 6), x.thing(0, 3));
            });
        }
        edge(5, ROPE, () -> {
            TideLodger x = in("house 0;thing 0 1 1 9;thing 0 1 2 9;tide 1;tide 2;rope 2;");
            due(4, "work", work(x, "tie 0;tie 1;tide;tide;"));
            row("each has a rope of its own", of(0, 0, 1, 1), x.thing(0, 5), x.thing(0, 6), x.thing(1, 5), x.thing(1, 6));
        });
    }

    private static void dues() {
        edge(5, DUES, () -> {
            TideLodger x = in("house 1;house 3;house 2;tide 3;");
            due(1, "law", law(x, "9"));
            tides(x, 1);
            row("paid where it is in", of(9, 0, 9, 18), x.house(0, 4), x.house(1, 4), x.house(2, 4), x.told(11));
        });
        edge(5, DUES, () -> {
            TideLodger x = in("house 0;house 0;thing 0 1 1 9;thing 1 1 1 9;thing 1 1 20 9;tide 1;");
            due(1, "law", law(x, "lost * 10 + wet"));
            row("DUES", of(11, 12), x.due(0), x.due(1));
            tides(x, 1);
            row("what floats in is not counted", of(11, 12), x.house(0, 4), x.house(1, 4));
            tides(x, 1);
            row("by the next it is", of(11, 24), x.house(0, 4), x.house(1, 4));
        });
        edge(5, DUES, () -> {
            TideLodger x = in("house 0;thing 0 1 1 9;tide 1;rope 1;");
            due(1, "law", law(x, "lost * 10 + wet"));
            due(2, "work", work(x, "tie 0;tide;"));
            due(1, "where a rope breaks, nothing is lost", x.house(0, 4));
            tides(x, 1);
            due(12, "then it is", x.house(0, 4));
            tides(x, 1);
            due(12, "and then there is none", x.house(0, 4));
        });
        edge(5, "DUES are paid to HOUSES it is in (all counted by this TIDE). Then the next TIDE is to come.", () -> {
            TideLodger x = in("house 0;tide 1;tide 2;");
            due(1, "law", law(x, "tide * 10 + depth"));
            tides(x, 1);
            row("TIDE 0 by its number and HEIGHT", of(1, 1, 2), x.told(11), x.told(4), x.told(5));
            tides(x, 1);
            row("TIDE 1", of(13, 2, 1), x.told(11), x.told(4), x.told(5));
            tides(x, 1);
            due(34, "TIDE 2", x.told(11));
        });
        edge(5, DUES, () -> {
            TideLodger x = in("house 0;".repeat(6) + "tide 60;");
            due(1, "law", law(x, "99"));
            tides(x, 500);
            row("the most that can be paid", of(49500, 49500, 297000), x.house(0, 4), x.house(5, 4), x.told(11));
        });
    }

    // ---- promise 5, what it answers
    private static void counted() {
        String done = "how many STEPS were done (agains not counted, nor REFUSED ones)";
        edge(5, done, () -> due(0, "none", work(in(TWO), "")));
        edge(5, done, () -> {
            TideLodger x = in(TWO);
            due(5, "work", work(x, "again 2[again 2[tide;lift 1;];];"));
            row("REFUSED, TIDES", of(3, 4), x.told(8), x.told(4));
        });
        edge(5, done, () -> {
            TideLodger x = in(TWO);
            due(0, "all REFUSED", work(x, "lower 0;untie 0;lower 1;untie 1;"));
            due(4, "REFUSED", x.told(8));
            due(0, "agains alone", work(x, "again 20[];again 3[again 4[];];"));
            due(0, "REFUSED", x.told(8));
        });
        edge(5, done, () -> {
            TideLodger x = in(TWO);
            due(6, "one of each", work(x, "tie 0;untie 0;lift 0;lower 0;bag 0;tide;"));
        });
    }

    private static TideLodger withSixteen() {
        TideLodger x = in(TWO);
        for (int works = 1; works <= 16; works++) {
            due(0, "WORK " + works, work(x, "lower 0;"));
            due(works, "count(2)", x.count(2));
        }
        return x;
    }

    private static void fullOfWorks() {
        edge(5, FULL, () -> {
            TideLodger x = withSixteen();
            TideLodger y = withSixteen();
            due(-20, "a seventeenth", work(x, "tide;"));
            row("count(2), count(1), fault()", of(16, 0, -1), x.count(2), x.count(1), x.fault());
            due(-20, "of no bytes", x.work(0));
            alike("behind -20", x, y);
        });
        edge(5, FULL, () -> {
            TideLodger x = withSixteen();
            due(-9, "a FAULT", law(x, "1+"));
            feed(x, "lift x;");
            for (int n : of(-1, 21, 151)) {
                illegal("work(" + n + ") behind the exception", () -> x.work(n));
            }
            row("the TAPE and the FAULT stay", of(20, 2, 3), x.count(1), x.fault(), x.status(1));
            due(-20, "ahead of the FAULT", x.work(7));
            row("there is no FAULT, the TAPE is empty", of(-1, 0, 1), x.fault(), x.count(1), x.told(8));
        });
        edge(5, FULL, () -> {
            TideLodger x = withSixteen();
            feed(x, "tide;" + " ".repeat(200));
            illegal("work(151)", () -> x.work(151));
            due(-20, "work(3) of 220 bytes", x.work(3));
            due(0, "the TAPE is empty", x.count(1));
            due(20, "feed", x.feed(0, 0, 0, 0, 0));
        });
        edge(5, FULL, () -> {
            TideLodger x = withSixteen();
            due(15, "undo", x.undo());
            due(1, "one can be done again", work(x, "tide;"));
            due(-20, "and no more", work(x, "tide;"));
            due(1, "TIDES", x.told(4));
        });
        edge(5, FULL, () -> {
            TideLodger x = withSixteen();
            due(1, "image", x.image());
            due(15, "undo", x.undo());
            due(0, "restore", x.restore());
            due(-20, "sixteen are there again", work(x, "tide;"));
        });
        edge(5, FULL, () -> {
            TideLodger x = in(TWO);
            for (int works = 1; works <= 16; works++) {
                due(-9, "a FAULT is no WORK", work(x, "tide"));
                due(0, "count(2)", x.count(2));
            }
            due(1, "work", work(x, "tide;"));
        });
    }

    // ---- promise 8
    private static void undoing() {
        edge(8, UNDO, () -> {
            TideLodger x = in(TWO);
            row("none", of(-1, -1, 0), x.undo(), x.undo(), x.count(2));
            due(1, "work", work(x, "tide;"));
            row("one, then none", of(0, -1), x.undo(), x.undo());
            due(0, "TIDES", x.told(4));
        });
        edge(8, UNDO, () -> {
            TideLodger x = in(TWO);
            due(1, "work", work(x, "tide;"));
            due(0, "of no STEPS", x.work(0));
            due(0, "all REFUSED", work(x, "lift 0;"));
            due(0, "of an again alone", work(x, "again 0[tide;];"));
            row("undone one by one", of(3, 1, 2, 1, 1, 1), x.undo(), x.told(4), x.undo(), x.told(4), x.undo(), x.told(4));
            row("and the first", of(0, 0, 0), x.undo(), x.told(4), x.told(9));
        });
        edge(8, UNDO, () -> {
            TideLodger x = in(STREET);
            TideLodger y = in(STREET);
            due(6, "work", work(x, "tie 0;lift 1;tide;bag 0;tide;bag 2;"));
            due(4, "work", work(x, "untie 0;lower 1;tide;tide;"));
            due(1, "undo", x.undo());
            row("as behind the first", of(2, 1, 1, 1, 1, 1), x.told(4), x.thing(0, 5), x.thing(0, 6), x.thing(1, 4),
                    x.house(0, 1), x.house(2, 1));
            due(0, "undo", x.undo());
            alikeNow("all undone", x, y);
        });
        edge(8, UNDO, () -> {
            TideLodger x = in(TWO);
            for (int works = 1; works <= 16; works++) {
                due(1, "work", work(x, "tide;"));
            }
            for (int works = 15; works >= 0; works--) {
                row("undo", of(works, works), x.undo(), x.told(4));
            }
            due(-1, "undo", x.undo());
        });
        edge(8, UNDO, () -> {
            TideLodger x = full();
            due(1, "law", law(x, "5"));
            due(1, "stains", stains(x, "1 1;"));
            feed(x, "rent 7;");
            due(1, "undo", x.undo());
            row("LAW, STAINS, TAPE, IMAGES stay", of(5, 1, 20, 1), x.would(1, 0, 0, 0, 0, 0), x.told(7), x.count(1),
                    x.count(0));
        });
        edge(8, UNDO, () -> {
            TideLodger x = in(TWO);
            due(1, "work", work(x, "tide;"));
            due(-9, "a FAULT", work(x, "bag"));
            due(0, "what had a FAULT was not done", x.undo());
            due(0, "TIDES", x.told(4));
        });
    }
}
