import java.util.ArrayList;
import java.util.HashMap;
import java.util.List;
import java.util.Map;
import java.util.Random;

/** Runs of calls with drawn arguments (always the same ones), each answer held against that of the Model. */
public final class RandomRunsTest {
    // A text and what is looked at behind it may bring 70 more: an object is used for 512 at most.
    private static final int CALLS = 430;

    private final Random draw;
    private final TideLodger lodger = new TideLodger();
    private final Model model = new Model();
    private final List<String> told = new ArrayList<>();
    private final Map<String, Integer> made;
    private int calls;
    private int wrong;

    private RandomRunsTest(long seed, Map<String, Integer> made) {
        draw = new Random(seed);
        this.made = made;
    }

    public static void main(String[] args) {
        Check.watch();
        int runs = args.length > 0 ? Integer.parseInt(args[0]) : 1500;
        int first = args.length > 1 ? Integer.parseInt(args[1]) : 1;
        Map<String, Integer> made = new HashMap<>();
        int wrong = 0;
        for (int run = first; run < first + runs && wrong == 0; run++) {
            wrong += new RandomRunsTest(run, made).run(run);
        }
        System.out.println(made.values().stream().mapToInt(n -> n).sum() + " calls held against the model, " + wrong
                + " wrong");
        for (String name : List.of("street -9", "street -8", "street -7", "law 1", "law -9", "law -8", "law -7",
                "work -9", "work -8", "work -7", "work -20", "stains -9", "stains -8", "carry", "board", "restore")) {
            if (runs >= 1000 && !made.containsKey(name)) {
                System.out.println("never met: " + name);
                wrong++;
            }
        }
        System.exit(wrong == 0 ? 0 : 1);
    }

    private interface Call {
        int answer();
    }

    private static String outcome(Call call) {
        try {
            return String.valueOf(call.answer());
        } catch (RuntimeException e) {
            return "throws." + e.getClass().getSimpleName();
        }
    }

    private void hold(String name, Call due, Call got) {
        calls++;
        String want = outcome(due);
        String have = outcome(got);
        told.add(name + " -> " + have);
        String kind = name.substring(0, name.indexOf('('));
        boolean text = List.of("street", "law", "work", "stains").contains(kind);
        made.merge(text && want.length() <= 3 ? kind + " " + want : kind, 1, Integer::sum);
        if (!want.equals(have)) {
            wrong++;
            told.forEach(System.out::println);
            System.out.println("due is " + want);
        }
    }

    private int below(int n) {
        return draw.nextInt(n);
    }

    /** Mostly from low to high, sometimes just beyond, seldom far off. */
    private int about(int low, int high) {
        int r = below(60);
        if (r == 0) {
            return low - 1;
        }
        if (r == 1) {
            return high + 1;
        }
        if (r == 2) {
            return draw.nextInt();
        }
        return r < 7 || high < low ? low : r < 12 ? high : low + below(high - low + 1);
    }

    private int run(int run) {
        if (below(10) > 0) {
            text('s');
        }
        int works = below(10) == 0 ? 40 : 16;
        while (calls < CALLS && wrong == 0) {
            int r = below(100);
            if (r < 2) {
                text('s');
            } else if (r < 6) {
                text('l');
            } else if (r < works) {
                text('w');
            } else if (r < works + 4) {
                text('m');
            } else {
                ask(below(36));
            }
        }
        if (wrong > 0) {
            System.out.println("in run " + run);
        }
        return wrong;
    }

    // ---- texts
    private String gap() {
        return below(5) == 0 ? " ".repeat(below(3)) : "";
    }

    private String num(int low, int high) {
        int n = below(40) == 0 ? (below(2) == 0 ? high + 1 : Math.max(0, low - 1)) : low + below(Math.max(1, high - low + 1));
        String zeros = below(30) == 0 ? "0".repeat(below(4)) : "";
        if (below(400) == 0) {
            zeros = "99999999999999";
        }
        return " " + gap() + zeros + n;
    }

    private String streetText() {
        StringBuilder s = new StringBuilder();
        int scale = below(4);
        int houses = 0;
        int first = below(8);
        for (int i = 0; i < first; i++) {
            s.append("house").append(num(0, scale == 0 ? 40 : 12)).append(";");
            houses++;
        }
        int clauses = below(50);
        int things = 1 + below(6);
        for (int i = 0; i < clauses; i++) {
            int r = below(20);
            if (r == 0 && below(6) == 0) {
                s.append(gap()).append("house").append(num(0, 40)).append(gap()).append(";");
                houses++;
            } else if (r < things) {
                s.append("thing").append(num(0, houses - 1)).append(num(1, 9)).append(num(1, scale < 2 ? 20 : 6))
                        .append(num(0, 40)).append(";");
            } else if (r < 13) {
                s.append(gap()).append("tide").append(num(0, scale < 2 ? 60 : 20)).append(gap()).append(";");
            } else if (r < 16) {
                s.append("find").append(num(1, 40)).append(num(0, 16)).append(";");
            } else if (r < 18) {
                s.append("rent").append(num(0, below(2) * 40)).append(";");
            } else {
                s.append("rope").append(num(1, 9)).append(";").append(gap());
            }
        }
        if (below(25) == 0) {
            s = new StringBuilder("rent0;".repeat(58 + below(4)));
            s.append(below(2) == 0 ? "house 3;" : "rope1;hose 1;");
        }
        return s.toString();
    }

    private String lawText(int open) {
        String[] names = {"depth", "lost", "wet", "tide", "moon", "rent", "house"};
        int r = below(open > 5 && below(9) > 0 ? 8 : 14);
        if (open > 7) {
            r = below(8);
        }
        String unit;
        if (r < 3) {
            unit = num(0, below(4) == 0 ? 999 : 9);
        } else if (r < 8) {
            unit = names[below(7)];
        } else if (r < 10) {
            unit = gap() + "(" + lawText(open + 1) + gap() + ")";
        } else if (r < 12) {
            unit = (r == 10 ? "least" : "most") + gap() + "[" + lawText(open + 1) + "," + lawText(open + 1) + gap() + "]";
        } else {
            return lawText(open) + " */+-".charAt(1 + below(4)) + gap() + lawText(open);
        }
        return gap() + unit;
    }

    private String workText(int open) {
        StringBuilder s = new StringBuilder();
        int steps = below(6);
        int things = model.world.things.size();
        int houses = model.sills.size();
        for (int i = 0; i < steps; i++) {
            int r = below(16);
            if (r < 8 && things > 0) {
                String word = r < 2 ? "lift" : r < 4 ? "lower" : r < 7 ? "tie" : "untie";
                s.append(gap()).append(word).append(num(0, things - 1));
            } else if (r < 10 && houses > 0) {
                s.append("bag").append(num(0, houses - 1));
            } else if (r < 13 || open > 6) {
                s.append("tide").append(gap());
            } else {
                s.append("again").append(num(0, below(3) == 0 ? 20 : 3)).append(gap()).append("[");
                s.append(workText(open + 1)).append(gap()).append("]");
            }
            s.append(";");
        }
        return s.toString();
    }

    private String stainsText() {
        StringBuilder s = new StringBuilder();
        int houses = model.sills.size();
        int height = model.tides.isEmpty() ? 0 : model.tides.get(below(model.tides.size()));
        for (int h = 0; h < houses; h++) {
            if (below(3) == 0) {
                int right = Math.max(0, height - model.sill(model.world, h));
                s.append(below(12) == 0 ? num(0, houses - 1) : " " + h);
                s.append(below(4) == 0 ? num(0, below(2) * 60) : " " + right).append(";").append(gap());
            }
        }
        return s.toString();
    }

    private String spoiled(String text) {
        if (text.isEmpty() || below(5) > 0) {
            return text;
        }
        StringBuilder s = new StringBuilder(text);
        int at = below(s.length());
        String signs = "0123456789;[](),+-*/ abcdehiost";
        char c = below(6) == 0 ? (char) below(256) : signs.charAt(below(signs.length()));
        switch (below(4)) {
            case 0 -> s.deleteCharAt(at);
            case 1 -> s.insert(at, c);
            case 2 -> s.setCharAt(at, c);
            default -> s.setLength(at);
        }
        return s.toString();
    }

    private void feed(String text) {
        for (int at = 0; at < text.length(); at += 20) {
            int[] n = new int[5];
            for (int i = 0; i < 20; i++) {
                int c = at + i < text.length() ? text.charAt(at + i) : below(256);
                n[i / 4] = n[i / 4] << 8 | c;
            }
            hold("feed(" + n[0] + ", " + n[1] + ", " + n[2] + ", " + n[3] + ", " + n[4] + ")", () -> model.feed(n),
                    () -> lodger.feed(n[0], n[1], n[2], n[3], n[4]));
        }
    }

    private void text(char kind) {
        String text = spoiled(kind == 's' ? streetText() : kind == 'l' ? lawText(0)
                : kind == 'w' ? workText(below(30) == 0 ? -3 : 0) : stainsText());
        if (kind == 'l' && below(12) == 0) {
            text = "(".repeat(below(5)) + "least[".repeat(below(4)) + text;
        }
        if (kind == 'w' && below(20) == 0) {
            text = "again1[".repeat(5 + below(4)) + "tide;";
        }
        int most = kind == 's' ? 600 : kind == 'm' ? 60 : 150;
        if (text.length() > most && below(4) > 0) {
            text = text.substring(0, most);
            int cut = text.lastIndexOf(';');
            if (cut >= 0 && kind != 'l') {
                text = text.substring(0, cut + 1);
            }
        }
        feed(text);
        int n = below(40) == 0 ? about(0, text.length()) : text.length();
        String name = "(" + n + " of \"" + text + "\")";
        switch (kind) {
            case 's' -> hold("street" + name, () -> model.street(n), () -> lodger.street(n));
            case 'l' -> hold("law" + name, () -> model.law(n), () -> lodger.law(n));
            case 'w' -> hold("work" + name, () -> model.work(n), () -> lodger.work(n));
            default -> hold("stains" + name, () -> model.stains(n), () -> lodger.stains(n));
        }
        hold("fault()", model::fault, lodger::fault);
        if (kind == 'w' || kind == 's') {
            lookRound();
        }
    }

    private void lookRound() {
        for (int what = 0; what < 12; what++) {
            int w = what;
            hold("told(" + w + ")", () -> model.told(w), () -> lodger.told(w));
        }
        for (int thing = 0; thing < model.world.things.size(); thing++) {
            int t = thing;
            int w = below(7);
            hold("thing(" + t + ", " + w + ")", () -> model.thing(t, w), () -> lodger.thing(t, w));
        }
        for (int house = 0; house < model.sills.size(); house++) {
            int h = house;
            int w = below(5);
            hold("house(" + h + ", " + w + ")", () -> model.house(h, w), () -> lodger.house(h, w));
        }
    }

    // ---- questions
    private void ask(int which) {
        int house = about(0, model.sills.size() - 1);
        int thing = about(0, model.world.things.size() - 1);
        int houses = about(0, (1 << model.sills.size()) - 1);
        int near = about(0, 24);
        int far = about(0, 60);
        int two = about(0, 1);
        int three = about(0, 2);
        int four = about(0, 3);
        switch (which) {
            case 0 -> {
                int w = about(0, 11);
                hold("told(" + w + ")", () -> model.told(w), () -> lodger.told(w));
            }
            case 1 -> {
                int w = about(0, 4);
                hold("house(" + house + ", " + w + ")", () -> model.house(house, w), () -> lodger.house(house, w));
            }
            case 2 -> {
                int w = about(0, 6);
                hold("thing(" + thing + ", " + w + ")", () -> model.thing(thing, w), () -> lodger.thing(thing, w));
            }
            case 3 -> {
                int n = about(0, 99);
                hold("height(" + n + ")", () -> model.height(n), () -> lodger.height(n));
            }
            case 4 -> {
                int f = about(0, model.finds.size() - 1);
                hold("find(" + f + ", " + two + ")", () -> model.find(f, two), () -> lodger.find(f, two));
            }
            case 5 -> hold("due(" + house + ")", () -> model.due(house), () -> lodger.due(house));
            case 6 -> {
                int d = about(1, 60);
                int l = about(0, 10);
                int w = about(0, 10);
                int t = about(0, 999);
                int r = about(0, 40);
                int h = about(0, 5);
                hold("would(" + d + ", " + l + ", " + w + ", " + t + ", " + r + ", " + h + ")",
                        () -> model.would(d, l, w, t, r, h), () -> lodger.would(d, l, w, t, r, h));
            }
            case 7 -> hold("ahead(" + far + ", " + four + ")", () -> model.ahead(far, four), () -> lodger.ahead(far, four));
            case 8 -> hold("comes(" + house + ")", () -> model.comes(house), () -> lodger.comes(house));
            case 9 -> hold("spring(" + two + ")", () -> model.spring(two), () -> lodger.spring(two));
            case 10 -> {
                int c = below(2) == 0 ? about(0, 99) : about(0, 30);
                int n = Math.min(near, 9);
                hold("carry(" + c + ", " + n + ", " + two + ")", () -> model.carry(c, n, two), () -> lodger.carry(c, n, two));
            }
            case 11 -> {
                int x = below(2) == 0 ? about(0, 9999) : about(0, 200);
                hold("rent(" + x + ", " + near + ")", () -> model.rent(x, near), () -> lodger.rent(x, near));
            }
            case 12 -> hold("bags(" + houses + ", " + near + ")", () -> model.bags(houses, near), () -> lodger.bags(houses, near));
            case 13 -> {
                int k = about(0, 12);
                int q = about(0, 16);
                hold("parlour(" + k + ", " + q + ", " + three + ")", () -> model.parlour(k, q, three),
                        () -> lodger.parlour(k, q, three));
            }
            case 14, 15 -> hold("in(" + three + ")", () -> model.in(three), () -> lodger.in(three));
            case 16, 17 -> hold("board(" + two + ")", () -> model.board(two), () -> lodger.board(two));
            default -> askMore(which, house, thing, houses);
        }
    }

    private void askMore(int which, int house, int thing, int houses) {
        int near = about(0, 24);
        int far = about(0, 60);
        int two = about(0, 1);
        int three = about(0, 2);
        int seed = draw.nextInt();
        int tides = about(1, 96);
        int q = about(0, 16);
        int k = about(0, 20);
        switch (which) {
            case 18 -> {
                int f = about(1, 20);
                hold("drift(" + house + ", " + f + ", " + near + ")", () -> model.drift(house, f, near),
                        () -> lodger.drift(house, f, near));
            }
            case 19 -> hold("whence(" + house + ", " + near + ", " + three + ")", () -> model.whence(house, near, three),
                    () -> lodger.whence(house, near, three));
            case 20 -> hold("gain(" + house + ", " + far + ", " + two + ")", () -> model.gain(house, far, two),
                    () -> lodger.gain(house, far, two));
            case 21, 22 -> {
                int n = below(2) == 0 ? about(0, 999) : about(0, 60);
                hold("share(" + house + ", " + houses + ", " + n + ")", () -> model.share(house, houses, n),
                        () -> lodger.share(house, houses, n));
            }
            case 23 -> hold("soaked(" + thing + ", " + far + ")", () -> model.soaked(thing, far),
                    () -> lodger.soaked(thing, far));
            case 24 -> hold("snaps(" + thing + ")", () -> model.snaps(thing), () -> lodger.snaps(thing));
            case 25 -> hold("fullest(" + two + ")", () -> model.fullest(two), () -> lodger.fullest(two));
            case 26 -> hold("pays(" + house + ", " + far + ")", () -> model.pays(house, far), () -> lodger.pays(house, far));
            case 27 -> hold("neap(" + two + ")", () -> model.neap(two), () -> lodger.neap(two));
            case 28 -> hold("loads(" + house + ", " + two + ")", () -> model.loads(house, two), () -> lodger.loads(house, two));
            case 29 -> hold("dearest(" + two + ")", () -> model.dearest(two), () -> lodger.dearest(two));
            case 30 -> hold("dry(" + houses + ", " + far + ")", () -> model.dry(houses, far), () -> lodger.dry(houses, far));
            case 31 -> {
                int w = about(0, 3);
                hold("year(" + seed + ", " + tides + ", " + q + ", " + k + ", " + w + ")",
                        () -> model.year(seed, tides, q, k, w), () -> lodger.year(seed, tides, q, k, w));
            }
            case 32 -> {
                int many = about(1, 20);
                hold("span(" + seed + ", " + many + ", " + tides + ", " + q + ", " + k + ", " + three + ", " + thing + ")",
                        () -> model.span(seed, many, tides, q, k, three, thing),
                        () -> lodger.span(seed, many, tides, q, k, three, thing));
            }
            case 33 -> {
                int w = about(0, 1);
                hold("status(" + w + ")", () -> model.status(w), () -> lodger.status(w));
                hold("count(" + (w + 1) + ")", () -> model.count(w + 1), () -> lodger.count(w + 1));
            }
            case 34 -> hold("undo()", model::undo, lodger::undo);
            default -> {
                if (below(2) == 0) {
                    hold("image()", model::image, lodger::image);
                } else {
                    hold("restore()", model::restore, lodger::restore);
                }
                hold("told(8)", () -> model.told(8), () -> lodger.told(8));
                hold("count(2)", () -> model.count(2), () -> lodger.count(2));
            }
        }
    }
}
