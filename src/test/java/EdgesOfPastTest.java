/** Edges of promises 39 to 42: IMAGES, what they bring back, and what is counted. */
public final class EdgesOfPastTest extends Edges {
    private static final String IMAGE = "An IMAGE of all that WORK changes, and of WORKS that can be undone: how many there "
            + "are; -1: there are 3.";
    private static final String RESTORE = "All that is as in the latest IMAGE, which is gone: how many are left; -1: there is "
            + "none.";
    private static final String STATUS = "How many calls were refused: 0 NoSuchElementException, 1 IllegalArgumentException; "
            + "NONE for others. (No IMAGE keeps it.)";
    private static final String COUNT = "0 IMAGES, 1 bytes of the TAPE, 2 WORKS that can be undone; NONE for others.";

    private EdgesOfPastTest() { }

    public static void main(String[] args) {
        watch();
        images();
        restoring();
        worksOfImages();
        whatNoImageKeeps();
        status();
        count();
        end("EdgesOfPastTest", 39, 42);
    }

    private static void images() {
        edge(39, IMAGE, () -> {
            TideLodger x = full();
            TideLodger y = full();
            due(2, "a second", x.image());
            due(3, "a third", x.image());
            due(-1, "there are 3", x.image());
            due(-1, "there are 3", x.image());
            due(3, "count(0)", x.count(0));
            row("nothing is refused by an exception", of(0, 0), x.status(0), x.status(1));
            due(2, "restore", x.restore());
            due(1, "restore", x.restore());
            row("one more", of(2, 1), y.image(), y.restore());
            alike("with one IMAGE again", x, y);
        });
        edge(39, IMAGE, () -> {
            TideLodger x = new TideLodger();
            row("of an empty STREET", of(1, 2, 3, -1), x.image(), x.image(), x.image(), x.image());
            row("and back", of(2, 1, 0, -1), x.restore(), x.restore(), x.restore(), x.restore());
            due(1, "and again", x.image());
        });
        edge(39, IMAGE, () -> {
            TideLodger x = in("house 0;tide 9;");
            for (int images = 1; images <= 3; images++) {
                tides(x, 1);
                due(images, "image", x.image());
            }
            tides(x, 1);
            due(-1, "a fourth", x.image());
            due(2, "restore", x.restore());
            due(3, "-1 makes none", x.told(4));
            due(3, "there is room again", x.image());
        });
    }

    private static void restoring() {
        edge(40, RESTORE, () -> {
            TideLodger x = in("house 0;tide 9;");
            row("none", of(-1, -1, 0), x.restore(), x.restore(), x.count(0));
            tides(x, 2);
            row("none, nothing changes", of(-1, 2, 1), x.restore(), x.told(4), x.count(2));
            due(1, "image", x.image());
            due(0, "restore", x.restore());
            row("it is gone", of(-1, 2), x.restore(), x.told(4));
        });
        edge(40, RESTORE, () -> {
            TideLodger x = in("house 0;tide 9;");
            for (int images = 1; images <= 3; images++) {
                tides(x, 10);
                due(images, "image", x.image());
            }
            tides(x, 5);
            row("the latest first", of(2, 30, 1, 20, 0, 10), x.restore(), x.told(4), x.restore(), x.told(4), x.restore(),
                    x.told(4));
            row("and none", of(-1, 10), x.restore(), x.told(4));
        });
        edge(40, RESTORE, () -> {
            TideLodger x = in(STREET + "rope 3;");
            TideLodger y = in(STREET + "rope 3;");
            String ahead = "tie 0;lift 1;tie 3;bag 2;tide;tide;";
            due(6, "work", work(x, ahead));
            due(6, "work", work(y, ahead));
            due(1, "image", x.image());
            due(9, "all else", work(x, "untie 0;lift 0;lower 1;tie 1;bag 0;bag 2;tide;untie 3;tie 2;"));
            tides(x, 30);
            due(0, "restore", x.restore());
            alikeNow("restored", x, y);
            row("worn as it was", of(1, 1, 1), x.thing(0, 6), x.thing(0, 5), x.thing(1, 4));
        });
        edge(40, RESTORE, () -> {
            TideLodger x = in("house 0;thing 0 1 1 9;tide 9;");
            due(1, "image", x.image());
            due(2, "work", work(x, "bag 0;tide;"));
            row("GONE, paid, bags", of(1, 1, 0), x.told(9), x.house(0, 1), x.house(0, 3));
            due(0, "restore", x.restore());
            row("there again", of(0, 0, 1, 9, 0, 0), x.told(9), x.house(0, 1), x.house(0, 3), x.thing(0, 2), x.told(11),
                    x.told(4));
        });
        edge(40, RESTORE, () -> {
            TideLodger x = in("house 0;tide 9;");
            due(1, "image", x.image());
            due(0, "street", street(x, "house 0;tide 9;"));
            row("no IMAGE behind a STREET", of(-1, 0), x.restore(), x.count(0));
            due(1, "image", x.image());
            due(-9, "a FAULT", street(x, "house"));
            due(0, "an IMAGE behind a FAULT", x.restore());
        });
    }

    private static void worksOfImages() {
        String works = "and of WORKS that can be undone";
        edge(39, works, () -> {
            TideLodger x = in("house 0;tide 9;");
            due(1, "work", work(x, "bag 0;"));
            due(1, "work", work(x, "tide;"));
            due(1, "image", x.image());
            due(1, "undo", x.undo());
            due(0, "undo", x.undo());
            due(-1, "undo", x.undo());
            due(0, "restore", x.restore());
            row("WORKS, TIDES, bags", of(2, 1, 1), x.count(2), x.told(4), x.house(0, 1));
            row("undone", of(1, 0, 1), x.undo(), x.told(4), x.house(0, 1));
            row("undone", of(0, 0, 0), x.undo(), x.told(4), x.house(0, 1));
            due(-1, "undo", x.undo());
        });
        edge(40, works, () -> {
            TideLodger x = in("house 0;tide 9;");
            due(1, "work", work(x, "bag 0;"));
            due(1, "work", work(x, "bag 0;"));
            due(1, "image", x.image());
            row("undone", of(1, 0), x.undo(), x.undo());
            for (int other = 1; other <= 3; other++) {
                due(1, "another work", work(x, "tide;"));
            }
            due(0, "restore", x.restore());
            row("the WORKS of then", of(2, 0, 2), x.count(2), x.told(4), x.house(0, 1));
            row("undone", of(1, 0, 1), x.undo(), x.told(4), x.house(0, 1));
            row("undone", of(0, 0, 0), x.undo(), x.told(4), x.house(0, 1));
        });
        edge(40, works, () -> {
            TideLodger x = in("house 0;tide 9;");
            due(1, "image of no WORKS", x.image());
            for (int done = 1; done <= 16; done++) {
                due(1, "work", work(x, "tide;"));
            }
            due(2, "image of sixteen WORKS", x.image());
            due(15, "undo", x.undo());
            due(1, "restore", x.restore());
            row("sixteen", of(16, 16, -20), x.count(2), x.told(4), x.work(0));
            due(0, "restore", x.restore());
            row("none", of(0, 0, -1), x.count(2), x.told(4), x.undo());
            due(1, "work", work(x, "tide;"));
        });
        edge(40, works, () -> {
            TideLodger x = in("house 0;tide 9;");
            for (int done = 1; done <= 16; done++) {
                due(1, "work", work(x, "tide;"));
            }
            row("image", of(1, 2, 3), x.image(), x.image(), x.image());
            for (int images = 2; images >= 0; images--) {
                for (int left = 15; left >= 0; left--) {
                    row("undo", of(left, left), x.undo(), x.told(4));
                }
                row("restore", of(images, 16, 16), x.restore(), x.count(2), x.told(4));
            }
        });
    }

    private static void whatNoImageKeeps() {
        edge(40, "An IMAGE of all that WORK changes", () -> {
            TideLodger x = full();
            due(2, "image", x.image());
            due(1, "law", law(x, "5"));
            due(1, "stains", stains(x, "1 1;"));
            feed(x, "rent 7;");
            due(1, "restore", x.restore());
            row("LAW, STAINS, TAPE stay", of(5, 1, 20), x.would(1, 0, 0, 0, 0, 0), x.told(7), x.count(1));
            due(0, "the TAPE is good", x.street(7));
        });
        edge(40, "An IMAGE of all that WORK changes", () -> {
            TideLodger x = in("house 0;");
            due(1, "image", x.image());
            due(-9, "a FAULT", law(x, "1+"));
            due(0, "restore", x.restore());
            due(2, "the FAULT of the latest text", x.fault());
        });
        edge(40, "(No IMAGE keeps it.)", () -> {
            TideLodger x = in("house 0;");
            missing("house(1, 0)", () -> x.house(1, 0));
            due(1, "image", x.image());
            missing("house(1, 0)", () -> x.house(1, 0));
            illegal("told(12)", () -> x.told(12));
            due(0, "restore", x.restore());
            row("status", of(2, 1), x.status(0), x.status(1));
        });
    }

    private static void status() {
        edge(41, STATUS, () -> {
            TideLodger x = full();
            row("none", of(0, 0), x.status(0), x.status(1));
            row("others", of(-1, -1, -1, -1), x.status(-1), x.status(2), x.status(Integer.MIN_VALUE),
                    x.status(Integer.MAX_VALUE));
            row("still none", of(0, 0), x.status(0), x.status(1));
        });
        edge(41, STATUS, () -> {
            TideLodger x = full();
            for (int times = 1; times <= 100; times++) {
                missing("thing(4, 7)", () -> x.thing(4, 7));
                illegal("thing(0, 7)", () -> x.thing(0, 7));
                row("status", of(times, times), x.status(0), x.status(1));
            }
        });
        edge(41, STATUS, () -> {
            TideLodger x = full();
            illegal("told(12)", () -> x.told(12));
            due(1, "undo", x.undo());
            due(0, "street", x.street(0));
            row("a STREET leaves it", of(0, 1), x.status(0), x.status(1));
        });
        edge(41, STATUS, () -> {
            TideLodger x = new TideLodger();
            due(-9, "a FAULT", law(x, ""));
            row("-1, NONE", of(-1, -1, -1, -1), x.undo(), x.restore(), x.count(3), x.status(2));
            row("no exception, not counted", of(0, 0), x.status(0), x.status(1));
        });
    }

    private static void count() {
        edge(42, COUNT, () -> {
            TideLodger x = full();
            row("count", of(1, 0, 2), x.count(0), x.count(1), x.count(2));
            row("others", of(-1, -1, -1, -1), x.count(-1), x.count(3), x.count(Integer.MIN_VALUE),
                    x.count(Integer.MAX_VALUE));
            row("nothing is refused", of(0, 0), x.status(0), x.status(1));
        });
        edge(42, COUNT, () -> {
            TideLodger x = in("house 0;");
            feed(x, " ".repeat(600));
            due(600, "the TAPE is full", x.count(1));
            for (int images = 1; images <= 3; images++) {
                x.image();
                due(images, "count(0)", x.count(0));
            }
            for (int works = 1; works <= 16; works++) {
                due(0, "work", x.work(0));
                row("count", of(3, 0, works), x.count(0), x.count(1), x.count(2));
            }
            x.work(0);
            x.image();
            row("full", of(3, 0, 16), x.count(0), x.count(1), x.count(2));
            due(15, "undo", x.undo());
            due(15, "count(2)", x.count(2));
            due(2, "restore", x.restore());
            row("count", of(2, 0, 0), x.count(0), x.count(1), x.count(2));
        });
    }
}
