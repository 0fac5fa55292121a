import java.util.NoSuchElementException;

/** Holds answers against those that are due, and feeds texts. */
class Check {
    private static final int MOST_MILLISECONDS = 600000;

    private static int held;
    private static int wrong;
    private static volatile String place = "";

    Check() { }

    interface Call {
        int answer();
    }

    /** A call that fails to end is a failure, too: the test is ended from outside then. */
    static void watch() {
        Thread watcher = new Thread(() -> {
            try {
                Thread.sleep(MOST_MILLISECONDS);
            } catch (InterruptedException e) {
                return;
            }
            System.out.println(place + "a call has not ended");
            Runtime.getRuntime().halt(1);
        });
        watcher.setDaemon(true);
        watcher.start();
    }

    /** What stands ahead of each line that is printed from now on. */
    static void at(String where) {
        place = where;
    }

    static void fail(String what) {
        wrong++;
        System.out.println(place + what);
    }

    static void due(int want, String call, int got) {
        held++;
        if (got != want) {
            fail(call + " answered " + got + ", due is " + want);
        }
    }

    static void must(boolean good, String what) {
        held++;
        if (!good) {
            fail("not so: " + what);
        }
    }

    static void thrown(Class<?> want, String call, Call made) {
        held++;
        String got;
        try {
            got = "answered " + made.answer();
        } catch (RuntimeException e) {
            if (e.getClass() == want) {
                return;
            }
            got = "threw " + e;
        }
        fail(call + " " + got + ", due is " + want.getSimpleName());
    }

    static void illegal(String call, Call made) {
        thrown(IllegalArgumentException.class, call, made);
    }

    static void missing(String call, Call made) {
        thrown(NoSuchElementException.class, call, made);
    }

    /** The text and zeros behind it, up to a multiple of twenty. */
    static void feed(TideLodger x, String text) {
        for (int at = 0; at < text.length(); at += 20) {
            int[] n = new int[5];
            for (int i = 0; i < 20; i++) {
                n[i / 4] = n[i / 4] << 8 | (at + i < text.length() ? text.charAt(at + i) : 0);
            }
            x.feed(n[0], n[1], n[2], n[3], n[4]);
        }
    }

    static int street(TideLodger x, String text) {
        feed(x, text);
        return x.street(text.length());
    }

    static int law(TideLodger x, String text) {
        feed(x, text);
        return x.law(text.length());
    }

    static int work(TideLodger x, String text) {
        feed(x, text);
        return x.work(text.length());
    }

    static int stains(TideLodger x, String text) {
        feed(x, text);
        return x.stains(text.length());
    }

    static TideLodger in(String street) {
        TideLodger x = new TideLodger();
        int answer = street(x, street);
        due(-1, "fault() of " + street, x.fault());
        if (answer < 0) {
            due(0, "street() of " + street, answer);
        }
        return x;
    }

    static void end(String name) {
        System.out.println(name + ": " + held + " answers held, " + wrong + " wrong");
        System.exit(wrong == 0 ? 0 : 1);
    }
}
