import java.util.ArrayList;
import java.util.Arrays;
import java.util.HashMap;
import java.util.LinkedHashMap;
import java.util.List;
import java.util.Map;
import java.util.NoSuchElementException;
import java.util.TreeMap;
import java.util.TreeSet;

/**
 * The document told a second time, as plainly as it can be and by brute force (sets are all tried, TIDES all go by), so
 * that the program can be held against it. It shares nothing with the program.
 */
final class Model {
    static final int NONE = -1;

    static final class Fault extends RuntimeException {
        private static final long serialVersionUID = 1;
        final int kind;
        final int place;

        Fault(int kind, int place) {
            super("fault", null, false, false);
            this.kind = kind;
            this.place = place;
        }
    }

    record Token(char kind, int start, String text) { }

    interface Node {
        int value(Map<String, Integer> names);
    }

    record Step(String word, int number, List<Step> inner) { }

    static final class Thing implements Cloneable {
        int house;
        int weight;
        int floats;
        int worth;
        boolean up;
        boolean tied;
        int worn;
        boolean gone;

        Thing twin() {
            try {
                return (Thing) clone();
            } catch (CloneNotSupportedException e) {
                throw new IllegalStateException(e);
            }
        }
    }

    /** All that WORK changes. */
    static final class World {
        List<Thing> things = new ArrayList<>();
        int[] bags = new int[6];
        int[] paid = new int[6];
        int tide;

        World twin() {
            World w = new World();
            for (Thing t : things) {
                w.things.add(t.twin());
            }
            w.bags = bags.clone();
            w.paid = paid.clone();
            w.tide = tide;
            return w;
        }
    }

    record Snapshot(World world, List<World> works) { }

    // ---- what is told
    final List<Integer> sills = new ArrayList<>();
    final List<Integer> tides = new ArrayList<>();
    final List<int[]> finds = new ArrayList<>();
    int rent = 10;
    int rope = 3;
    Node law;
    Map<Integer, Integer> stains = new LinkedHashMap<>();

    World world = new World();
    List<World> works = new ArrayList<>();
    List<Snapshot> images = new ArrayList<>();
    int refused;
    int missing;
    int illegal;
    int faultAt = NONE;
    StringBuilder tape = new StringBuilder();

    Model() {
        law = defaultLaw();
    }

    private static Node defaultLaw() {
        return new Parser("depth / 4 + lost * 3 - rent", null).law();
    }

    // ---- reading
    static final class Parser {
        final List<Token> tokens = new ArrayList<>();
        final Model to;
        int at;

        Parser(String text, Model to) {
            this.to = to;
            int i = 0;
            while (i < text.length()) {
                char c = text.charAt(i);
                int j = i + 1;
                if (c == ' ') {
                    i++;
                    continue;
                }
                char kind = c >= 'a' && c <= 'z' ? 'w' : c >= '0' && c <= '9' ? 'n' : 's';
                if (kind == 'w') {
                    while (j < text.length() && text.charAt(j) >= 'a' && text.charAt(j) <= 'z') {
                        j++;
                    }
                } else if (kind == 'n') {
                    while (j < text.length() && text.charAt(j) >= '0' && text.charAt(j) <= '9') {
                        j++;
                    }
                }
                tokens.add(new Token(kind, i, text.substring(i, j)));
                i = j;
            }
            tokens.add(new Token('e', text.length(), ""));
        }

        Token now() {
            return tokens.get(at);
        }

        boolean ended() {
            return now().kind() == 'e';
        }

        boolean is(String sign) {
            return now().text().equals(sign);
        }

        void sign(String sign) {
            if (!is(sign)) {
                throw new Fault(1, now().start());
            }
            at++;
        }

        int number(int low, int high) {
            Token t = now();
            if (t.kind() != 'n') {
                throw new Fault(1, t.start());
            }
            java.math.BigInteger n = new java.math.BigInteger(t.text());
            if (n.compareTo(java.math.BigInteger.valueOf(low)) < 0
                    || n.compareTo(java.math.BigInteger.valueOf(high)) > 0) {
                throw new Fault(2, t.start());
            }
            at++;
            return n.intValue();
        }

        Token word(List<String> known) {
            Token t = now();
            if (t.kind() != 'w' || !known.contains(t.text())) {
                throw new Fault(1, t.start());
            }
            at++;
            return t;
        }

        /** Into a fresh Model. */
        void street() {
            Map<String, Integer> most = Map.of("house", 6, "thing", 10, "tide", 12, "find", 6, "rent", 99, "rope", 99);
            Map<String, Integer> many = new HashMap<>();
            int clauses = 0;
            while (!ended()) {
                Token t = word(List.copyOf(most.keySet()));
                int before = many.merge(t.text(), 1, Integer::sum) - 1;
                if (clauses >= 60 || before >= most.get(t.text())) {
                    throw new Fault(3, t.start());
                }
                clauses++;
                switch (t.text()) {
                    case "house" -> to.sills.add(number(0, 40));
                    case "thing" -> {
                        Thing x = new Thing();
                        x.house = number(0, to.sills.size() - 1);
                        x.weight = number(1, 9);
                        x.floats = number(1, 20);
                        x.worth = number(0, 40);
                        to.world.things.add(x);
                    }
                    case "tide" -> to.tides.add(number(0, 60));
                    case "find" -> to.finds.add(new int[] {number(1, 40), number(0, 16)});
                    case "rent" -> to.rent = number(0, 40);
                    default -> to.rope = number(1, 9);
                }
                sign(";");
            }
        }

        Node law() {
            Node n = sum(0);
            if (!ended()) {
                throw new Fault(1, now().start());
            }
            return n;
        }

        Node sum(int open) {
            Node left = product(open);
            while (is("+") || is("-")) {
                boolean plus = is("+");
                at++;
                Node a = left;
                Node b = product(open);
                left = plus ? m -> a.value(m) + b.value(m) : m -> a.value(m) - b.value(m);
            }
            return left;
        }

        Node product(int open) {
            Node left = unit(open);
            while (is("*") || is("/")) {
                boolean times = is("*");
                at++;
                Node a = left;
                Node b = unit(open);
                left = times ? m -> a.value(m) * b.value(m) : m -> {
                    int d = b.value(m);
                    return d == 0 ? 0 : (int) ((long) a.value(m) / d);
                };
            }
            return left;
        }

        Node unit(int open) {
            Token t = now();
            if (t.kind() == 'n') {
                int n = number(0, 999);
                return m -> n;
            }
            boolean opens = is("(") || is("least") || is("most");
            if (opens && open == 6) {
                throw new Fault(3, t.start());
            }
            if (is("(")) {
                at++;
                Node n = sum(open + 1);
                sign(")");
                return n;
            }
            String w = word(List.of("depth", "lost", "wet", "tide", "moon", "rent", "house", "least", "most")).text();
            if (!opens) {
                return m -> m.get(w);
            }
            sign("[");
            Node a = sum(open + 1);
            sign(",");
            Node b = sum(open + 1);
            sign("]");
            return w.equals("least") ? m -> Math.min(a.value(m), b.value(m)) : m -> Math.max(a.value(m), b.value(m));
        }

        List<Step> steps(int open) {
            List<Step> all = new ArrayList<>();
            while (!(open > 0 ? is("]") : ended())) {
                Token t = word(List.of("lift", "lower", "tie", "untie", "bag", "tide", "again"));
                int n = 0;
                List<Step> inner = null;
                switch (t.text()) {
                    case "tide" -> { }
                    case "bag" -> n = number(0, to.sills.size() - 1);
                    case "again" -> {
                        if (open == 6) {
                            throw new Fault(3, t.start());
                        }
                        n = number(0, 20);
                        sign("[");
                        inner = steps(open + 1);
                        sign("]");
                    }
                    default -> n = number(0, to.world.things.size() - 1);
                }
                sign(";");
                all.add(new Step(t.text(), n, inner));
            }
            return all;
        }

        Map<Integer, Integer> stains() {
            Map<Integer, Integer> all = new LinkedHashMap<>();
            while (!ended()) {
                int start = now().start();
                int h = number(0, to.sills.size() - 1);
                if (all.containsKey(h)) {
                    throw new Fault(2, start);
                }
                all.put(h, number(0, 60));
                sign(";");
            }
            return all;
        }
    }

    // ---- the world goes by
    int heightOf(int tide) {
        return tides.isEmpty() ? 0 : tides.get(tide % tides.size());
    }

    int sill(World w, int house) {
        return sills.get(house) + 2 * w.bags[house];
    }

    int water(World w, int house, int height) {
        return Math.max(0, height - sill(w, house));
    }

    int dueBy(int depth, int lost, int wet, int tide, int r, int house) {
        int out = law.value(Map.of("depth", depth, "lost", lost, "wet", wet, "tide", tide, "moon", tide % 8, "rent", r,
                "house", house));
        return Math.max(0, Math.min(99, out));
    }

    /** What a TIDE of this height does, and for how many HOUSES it is in them. */
    int tide(World w, int height, int r) {
        int[] lost = new int[6];
        int[] wet = new int[6];
        for (Thing t : w.things) {
            if (t.gone || t.up || water(w, t.house, height) == 0) {
                continue;
            }
            int here = t.house;
            wet[here]++;
            t.worth = Math.max(0, t.worth - 1);
            if (t.floats > water(w, here, height)) {
                continue;
            }
            if (t.tied) {
                t.worn++;
                if (t.worn == rope) {
                    t.tied = false;
                    t.worn = 0;
                }
            } else {
                lost[here]++;
                t.house++;
                t.gone = t.house == sills.size();
            }
        }
        int in = 0;
        for (int h = 0; h < sills.size(); h++) {
            int d = water(w, h, height);
            if (d > 0) {
                in++;
                w.paid[h] += dueBy(d, lost[h], wet[h], w.tide, r, h);
            }
        }
        w.tide++;
        return in;
    }

    World after(int n, int r) {
        World w = world.twin();
        for (int i = 0; i < n; i++) {
            tide(w, heightOf(w.tide), r);
        }
        return w;
    }

    World after(int n) {
        return after(n, rent);
    }

    int worth(World w) {
        return w.things.stream().filter(t -> !t.gone).mapToInt(t -> t.worth).sum();
    }

    int gone(World w) {
        return (int) w.things.stream().filter(t -> t.gone).count();
    }

    int paid(World w) {
        return Arrays.stream(w.paid).sum();
    }

    // ---- refusals
    private void house(int house) {
        if (house < 0 || house >= sills.size()) {
            missing++;
            throw new NoSuchElementException();
        }
    }

    private void element(int n, int many) {
        if (n < 0 || n >= many) {
            missing++;
            throw new NoSuchElementException();
        }
    }

    private void range(int n, int low, int high) {
        if (n < low || n > high) {
            illegal++;
            throw new IllegalArgumentException();
        }
    }

    // ---- the face
    int feed(int... numbers) {
        if (tape.length() + 20 > 600) {
            return NONE;
        }
        for (int n : numbers) {
            for (int i = 3; i >= 0; i--) {
                tape.append((char) (n >>> 8 * i & 255));
            }
        }
        return tape.length();
    }

    private String take(int n, int most) {
        range(n, 0, Math.min(most, tape.length()));
        String s = tape.substring(0, n);
        tape.setLength(0);
        faultAt = NONE;
        return s;
    }

    private int fail(Fault f) {
        faultAt = f.place;
        return f.kind - 10;
    }

    int street(int n) {
        String s = take(n, 600);
        Model fresh = new Model();
        try {
            new Parser(s, fresh).street();
        } catch (Fault f) {
            return fail(f);
        }
        sills.clear();
        sills.addAll(fresh.sills);
        tides.clear();
        tides.addAll(fresh.tides);
        finds.clear();
        finds.addAll(fresh.finds);
        rent = fresh.rent;
        rope = fresh.rope;
        law = defaultLaw();
        stains = new LinkedHashMap<>();
        world = fresh.world;
        works.clear();
        images.clear();
        refused = 0;
        return world.things.size();
    }

    int law(int n) {
        try {
            law = new Parser(take(n, 150), this).law();
            return 1;
        } catch (Fault f) {
            return fail(f);
        }
    }

    private int begun;
    private int done;

    int work(int n) {
        range(n, 0, Math.min(150, tape.length()));
        if (works.size() == 16) {
            take(0, 600);
            return -20;
        }
        List<Step> steps;
        try {
            steps = new Parser(take(n, 150), this).steps(0);
        } catch (Fault f) {
            return fail(f);
        }
        works.add(world.twin());
        begun = 0;
        done = 0;
        refused = 0;
        run(steps);
        return done;
    }

    private boolean run(List<Step> steps) {
        for (Step s : steps) {
            if (begun == 200) {
                return false;
            }
            begun++;
            if (s.word().equals("again")) {
                for (int i = 0; i < s.number(); i++) {
                    if (!run(s.inner())) {
                        return false;
                    }
                }
            } else if (one(s)) {
                done++;
            } else {
                refused++;
            }
        }
        return true;
    }

    private boolean one(Step s) {
        if (s.word().equals("bag")) {
            if (world.bags[s.number()] == 9) {
                return false;
            }
            world.bags[s.number()]++;
            return true;
        }
        if (s.word().equals("tide")) {
            if (world.tide >= 500) {
                return false;
            }
            tide(world, heightOf(world.tide), rent);
            return true;
        }
        Thing t = world.things.get(s.number());
        switch (s.word()) {
            case "lift" -> {
                if (t.up || t.tied || t.gone) {
                    return false;
                }
                t.up = true;
            }
            case "lower" -> {
                if (!t.up) {
                    return false;
                }
                t.up = false;
            }
            case "tie" -> {
                if (t.tied || t.up || t.gone) {
                    return false;
                }
                t.tied = true;
                t.worn = 0;
            }
            default -> {
                if (!t.tied) {
                    return false;
                }
                t.tied = false;
                t.worn = 0;
            }
        }
        return true;
    }

    int stains(int n) {
        try {
            stains = new Parser(take(n, 60), this).stains();
            return stains.size();
        } catch (Fault f) {
            return fail(f);
        }
    }

    int fault() {
        return faultAt;
    }

    int undo() {
        if (works.isEmpty()) {
            return -1;
        }
        world = works.remove(works.size() - 1);
        refused = 0;
        return works.size();
    }

    int told(int what) {
        range(what, 0, 11);
        return new int[] {sills.size(), world.things.size(), tides.size(), finds.size(), world.tide,
                heightOf(world.tide), rent, stains.size(), refused, gone(world), worth(world), paid(world)}[what];
    }

    int house(int house, int what) {
        house(house);
        range(what, 0, 4);
        int bits = 0;
        for (int i = 0; i < world.things.size(); i++) {
            Thing t = world.things.get(i);
            bits += !t.gone && t.house == house ? 1 << i : 0;
        }
        return new int[] {sill(world, house), world.bags[house], water(world, house, heightOf(world.tide)), bits,
                world.paid[house]}[what];
    }

    int thing(int thing, int what) {
        element(thing, world.things.size());
        range(what, 0, 6);
        Thing t = world.things.get(thing);
        return new int[] {t.weight, t.floats, t.worth, t.gone ? NONE : t.house, t.up ? 1 : 0, t.tied ? 1 : 0,
                t.worn}[what];
    }

    int height(int n) {
        range(n, 0, 99);
        return heightOf(world.tide + n);
    }

    int find(int find, int what) {
        element(find, finds.size());
        range(what, 0, 1);
        return finds.get(find)[what];
    }

    int due(int house) {
        house(house);
        return after(1).paid[house] - world.paid[house];
    }

    int would(int depth, int lost, int wet, int tide, int r, int house) {
        range(depth, 1, 60);
        range(lost, 0, 10);
        range(wet, 0, 10);
        range(tide, 0, 999);
        range(r, 0, 40);
        range(house, 0, 5);
        return dueBy(depth, lost, wet, tide, r, house);
    }

    int ahead(int n, int what) {
        range(n, 0, 60);
        range(what, 0, 3);
        World w = world.twin();
        int in = 0;
        for (int i = 0; i < n; i++) {
            in += tide(w, heightOf(w.tide), rent);
        }
        return new int[] {worth(w), gone(w), paid(w) - paid(world), in}[what];
    }

    private boolean isIn(int house, int ahead) {
        return water(world, house, heightOf(world.tide + ahead)) > 0;
    }

    int comes(int house) {
        house(house);
        int n = 0;
        while (n < 60 && !isIn(house, n)) {
            n++;
        }
        return n == 60 ? NONE : n;
    }

    int spring(int what) {
        range(what, 0, 1);
        TreeMap<Integer, Integer> firsts = new TreeMap<>();
        for (int i = 0; i < 24; i++) {
            firsts.putIfAbsent(heightOf(world.tide + i), i);
        }
        return what == 0 ? firsts.lastEntry().getValue() : firsts.lastKey();
    }

    int carry(int c, int n, int what) {
        range(c, 0, 99);
        range(n, 0, 24);
        range(what, 0, 1);
        int best = -1;
        int bestSet = 0;
        int[] when = new int[1];
        sets:
        for (int set = 0; set < 1 << world.things.size(); set++) {
            World w = world.twin();
            int weight = 0;
            for (int i = 0; i < w.things.size(); i++) {
                if ((set >> i & 1) == 1) {
                    Thing t = w.things.get(i);
                    if (t.up || t.tied || t.gone) {
                        continue sets;
                    }
                    weight += t.weight;
                    t.up = true;
                }
            }
            if (weight > c) {
                continue;
            }
            World kept = world;
            world = w;
            int worth = worth(after(n));
            world = kept;
            when[0]++;
            if (worth > best) {
                best = worth;
                bestSet = set;
            }
        }
        return what == 0 ? best : bestSet;
    }

    int rent(int x, int n) {
        range(x, 0, 9999);
        range(n, 0, 24);
        for (int r = 0; r <= 40; r++) {
            if (paid(after(n, r)) - paid(world) <= x) {
                return r;
            }
        }
        return NONE;
    }

    private void houses(int bits) {
        range(bits, 0, (1 << sills.size()) - 1);
    }

    int bags(int houses, int n) {
        houses(houses);
        range(n, 0, 24);
        int sum = 0;
        for (int h = 0; h < sills.size(); h++) {
            if ((houses >> h & 1) == 0) {
                continue;
            }
            int more = 0;
            while (true) {
                int sill = sill(world, h) + 2 * more;
                boolean in = false;
                for (int i = 0; i < n; i++) {
                    in |= heightOf(world.tide + i) > sill;
                }
                if (!in) {
                    break;
                }
                more++;
                if (world.bags[h] + more > 9) {
                    return NONE;
                }
            }
            sum += more;
        }
        return sum;
    }

    private static int[] hours(int k, int q, int s, int h) {
        return s + h <= k ? new int[] {16 * s, 16 * h} : new int[] {q, 16 - q};
    }

    int parlour(int k, int q, int what) {
        range(k, 0, 12);
        range(q, 0, 16);
        range(what, 0, 2);
        List<int[]> rests = new ArrayList<>();
        for (int s = 0; s <= k; s++) {
            for (int h = 0; h <= k; h++) {
                int bestSea = 0;
                int bestHouse = 0;
                for (int o = 0; o <= k; o++) {
                    bestSea = Math.max(bestSea, hours(k, q, o, h)[0]);
                    bestHouse = Math.max(bestHouse, hours(k, q, s, o)[1]);
                }
                int[] has = hours(k, q, s, h);
                if (has[0] == bestSea && has[1] == bestHouse) {
                    rests.add(new int[] {100 * s + h, has[0] + has[1]});
                }
            }
        }
        if (what == 0) {
            return rests.size();
        }
        return rests.isEmpty() ? (what == 1 ? NONE : 0) : rests.get(0)[what - 1];
    }

    private List<Integer> sets() {
        List<Integer> all = new ArrayList<>();
        for (int set = 1; set < 1 << tides.size(); set++) {
            boolean good = true;
            for (Map.Entry<Integer, Integer> line : stains.entrySet()) {
                good &= greatest(set, line.getKey()) == line.getValue();
            }
            if (good) {
                all.add(set);
            }
        }
        return all;
    }

    private int greatest(int set, int house) {
        int most = 0;
        for (int i = 0; i < tides.size(); i++) {
            if ((set >> i & 1) == 1) {
                most = Math.max(most, water(world, house, tides.get(i)));
            }
        }
        return most;
    }

    int in(int what) {
        range(what, 0, 2);
        List<Integer> sets = sets();
        if (what == 0) {
            return sets.size();
        }
        if (sets.isEmpty()) {
            return what == 1 ? NONE : 0;
        }
        return what == 1 ? sets.get(0) : sets.stream().reduce(-1, (a, b) -> a & b);
    }

    int board(int what) {
        range(what, 0, 1);
        int best = NONE;
        int fewest = NONE;
        List<Integer> sets = sets();
        for (int h = 0; h < sills.size(); h++) {
            if (stains.containsKey(h)) {
                continue;
            }
            Map<Integer, Integer> left = new HashMap<>();
            for (int set : sets) {
                left.merge(greatest(set, h), 1, Integer::sum);
            }
            int worst = left.values().stream().max(Integer::compare).orElse(0);
            if (best == NONE || worst < fewest) {
                best = h;
                fewest = worst;
            }
        }
        return what == 0 ? best : fewest;
    }

    private int driftOf(int house, int f, int n) {
        World kept = world;
        world = world.twin();
        Thing t = new Thing();
        t.house = house;
        t.weight = 1;
        t.floats = f;
        world.things.add(t);
        World w = after(n);
        world = kept;
        Thing end = w.things.get(w.things.size() - 1);
        return end.gone ? NONE : end.house;
    }

    int drift(int house, int f, int n) {
        house(house);
        range(f, 1, 20);
        range(n, 0, 24);
        return driftOf(house, f, n);
    }

    int whence(int house, int n, int what) {
        house(house);
        range(n, 0, 24);
        range(what, 0, 2);
        int many = 0;
        TreeSet<Integer> froms = new TreeSet<>();
        TreeSet<Integer> fs = new TreeSet<>();
        for (int from = 0; from < sills.size(); from++) {
            for (int f = 1; f <= 20; f++) {
                if (driftOf(from, f, n) == house) {
                    many++;
                    froms.add(from);
                    fs.add(f);
                }
            }
        }
        return what == 0 ? many : what == 1 ? froms.stream().mapToInt(h -> 1 << h).sum() : fs.isEmpty() ? NONE : fs.first();
    }

    int gain(int house, int n, int part) {
        house(house);
        range(n, 0, 60);
        range(part, 0, 1);
        int sum = 0;
        for (int i = 0; i < n; i++) {
            for (int[] find : finds) {
                sum += isIn(house, i) ? find[0] * find[1] : 0;
            }
        }
        int g = java.math.BigInteger.valueOf(sum).gcd(java.math.BigInteger.valueOf(16)).intValue();
        return part == 0 ? sum / g : 16 / g;
    }

    int share(int house, int houses, int n) {
        house(house);
        houses(houses);
        range(n, 0, 999);
        if ((houses >> house & 1) == 0) {
            return 0;
        }
        int most = Arrays.stream(world.paid).max().getAsInt();
        int bound = 0;
        for (int b = 0; b <= most; b++) {
            int given = 0;
            for (int h = 0; h < sills.size(); h++) {
                given += (houses >> h & 1) == 1 ? Math.min(b, world.paid[h]) : 0;
            }
            if (given <= n) {
                bound = b;
            }
        }
        return Math.min(bound, world.paid[house]);
    }

    int soaked(int thing, int n) {
        element(thing, world.things.size());
        range(n, 0, 60);
        World w = world.twin();
        w.things.get(thing).worth = 1000;
        World kept = world;
        world = w;
        int times = 1000 - after(n).things.get(thing).worth;
        world = kept;
        return times;
    }

    int snaps(int thing) {
        element(thing, world.things.size());
        if (!world.things.get(thing).tied) {
            return NONE;
        }
        for (int n = 1; n <= 60; n++) {
            if (!after(n).things.get(thing).tied) {
                return n - 1;
            }
        }
        return NONE;
    }

    int fullest(int what) {
        range(what, 0, 1);
        int[] many = new int[sills.size()];
        for (Thing t : world.things) {
            if (!t.gone) {
                many[t.house]++;
            }
        }
        int most = Arrays.stream(many).max().orElse(0);
        if (most == 0) {
            return NONE;
        }
        for (int h = 0; ; h++) {
            if (many[h] == most) {
                return what == 0 ? h : most;
            }
        }
    }

    int pays(int house, int n) {
        house(house);
        range(n, 0, 60);
        return after(n).paid[house] - world.paid[house];
    }

    private boolean dryFor(int houses, int ahead) {
        for (int h = 0; h < sills.size(); h++) {
            if ((houses >> h & 1) == 1 && isIn(h, ahead)) {
                return false;
            }
        }
        return true;
    }

    int neap(int what) {
        range(what, 0, 1);
        for (int length = 60; length > 0; length--) {
            for (int start = 0; start + length <= 60; start++) {
                boolean good = true;
                for (int i = start; i < start + length; i++) {
                    good &= dryFor(63, i);
                }
                if (good) {
                    return what == 0 ? length : start;
                }
            }
        }
        return what == 0 ? 0 : NONE;
    }

    int loads(int house, int what) {
        house(house);
        range(what, 0, 1);
        return world.things.stream().filter(t -> !t.gone && t.house == house && t.up == (what == 1))
                .mapToInt(t -> t.weight).sum();
    }

    int dearest(int what) {
        range(what, 0, 1);
        int most = Arrays.stream(world.paid).max().getAsInt();
        if (most == 0) {
            return NONE;
        }
        for (int h = 0; ; h++) {
            if (world.paid[h] == most) {
                return what == 0 ? h : most;
            }
        }
    }

    int dry(int houses, int n) {
        houses(houses);
        range(n, 0, 60);
        int many = 0;
        for (int i = 0; i < n; i++) {
            many += dryFor(houses, i) ? 1 : 0;
        }
        return many;
    }

    private void yearArgs(int tides, int q, int k) {
        range(tides, 1, 96);
        range(q, 0, 16);
        range(k, 0, 20);
    }

    private int winds;

    private World yearOf(int seed, int many, int q, int k) {
        World w = world.twin();
        long s = seed & 0xffffffffL;
        winds = 0;
        for (int i = 0; i < many; i++) {
            s = s * 1103515245L + 12345L & 0xffffffffL;
            long draw = s / 65536 % 32768 % 16;
            int more = 0;
            if (draw < q) {
                winds++;
                more = k;
            }
            tide(w, heightOf(w.tide) + more, rent);
        }
        return w;
    }

    int year(int seed, int many, int q, int k, int what) {
        yearArgs(many, q, k);
        range(what, 0, 3);
        World w = yearOf(seed, many, q, k);
        return new int[] {worth(w), paid(w) - paid(world), gone(w), winds}[what];
    }

    int span(int seed, int seeds, int many, int q, int k, int what, int thing) {
        range(seeds, 1, 20);
        yearArgs(many, q, k);
        range(what, 0, 2);
        range(thing, 0, world.things.size() - 1);
        TreeSet<Integer> gones = new TreeSet<>();
        int there = 0;
        for (int i = 0; i < seeds; i++) {
            World w = yearOf(seed + i, many, q, k);
            gones.add(gone(w));
            there += w.things.get(thing).gone ? 0 : 1;
        }
        return what == 0 ? gones.first() : what == 1 ? gones.last() : there;
    }

    int image() {
        if (images.size() == 3) {
            return -1;
        }
        List<World> kept = new ArrayList<>();
        for (World w : works) {
            kept.add(w.twin());
        }
        images.add(new Snapshot(world.twin(), kept));
        return images.size();
    }

    int restore() {
        if (images.isEmpty()) {
            return -1;
        }
        Snapshot s = images.remove(images.size() - 1);
        world = s.world();
        works = s.works();
        refused = 0;
        return images.size();
    }

    int status(int what) {
        return what == 0 ? missing : what == 1 ? illegal : NONE;
    }

    int count(int what) {
        return what == 0 ? images.size() : what == 1 ? tape.length() : what == 2 ? works.size() : NONE;
    }
}
