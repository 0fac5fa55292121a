import java.util.NoSuchElementException;

/**
 * The tide has the ground floor: a street of houses by their sills, things that float, tides that come one behind the
 * other, and what the sea owes for it by a law of its own. Words in capitals are those of the document.
 */
public final class TideLodger {
    public static final int NONE = -1;

    private static final int MOST_HOUSES = 6;
    private static final int MOST_THINGS = 10;
    private static final int MOST_TIDES = 12;
    private static final int MOST_FINDS = 6;
    private static final int MOST_CLAUSES = 60;
    private static final int MOST_OPEN = 6;
    private static final int MOST_BAGS = 9;
    private static final int MOST_HEIGHT = 60;
    private static final int MOST_RENT = 40;
    private static final int MOST_FLOAT = 20;
    private static final int MOST_DUE = 99;
    private static final int MOST_WORKS = 16;
    private static final int MOST_IMAGES = 3;
    private static final int MOST_STEPS = 200;
    private static final int LAST_TIDE = 500;
    private static final int FAR = 60;
    private static final int NEAR = 24;

    private static final int TAPE_BYTES = 600;
    private static final int LONG_TEXT = 150;
    private static final int SHORT_TEXT = 60;
    private static final int FED_BYTES = 20;
    private static final int TOO_MANY_WORKS = -20;

    private static final int FAULT_PLACE = 1;
    private static final int FAULT_NUMBER = 2;
    private static final int FAULT_MANY = 3;

    private final Text text = new Text();
    private final Street lane = new Street();
    private final Street nextLane = new Street();
    private final Law rule = new Law();
    private final Law nextRule = new Law();
    private final Steps steps = new Steps();
    private final Marks marks = new Marks();
    private final Marks nextMarks = new Marks();
    private final Stand stand = new Stand();
    private final Past past = new Past();
    private final Course course = new Course(lane, rule, stand);
    private int refusedSteps;
    private int missingCalls;
    private int illegalCalls;

    public TideLodger() {
        openStreet();
    }

    public int feed(int a, int b, int c, int d, int e) {
        if (!text.hasRoom(FED_BYTES)) {
            return NONE;
        }
        text.addNumber(a);
        text.addNumber(b);
        text.addNumber(c);
        text.addNumber(d);
        text.addNumber(e);
        return text.held;
    }

    public int street(int n) throws IllegalArgumentException {
        needText(n, TAPE_BYTES);
        text.begin(n);
        if (!nextLane.read(text)) {
            return text.faultAnswer();
        }
        lane.copyFrom(nextLane);
        openStreet();
        return lane.things;
    }

    public int law(int n) throws IllegalArgumentException {
        needText(n, LONG_TEXT);
        text.begin(n);
        if (!nextRule.read(text)) {
            return text.faultAnswer();
        }
        rule.copyFrom(nextRule);
        return 1;
    }

    public int work(int n) throws IllegalArgumentException {
        needText(n, LONG_TEXT);
        if (past.isFull()) {
            text.begin(0);
            return TOO_MANY_WORKS;
        }
        text.begin(n);
        if (!steps.read(text, lane)) {
            return text.faultAnswer();
        }
        past.keep(stand);
        int done = steps.doAll(stand, lane, rule);
        refusedSteps = steps.refused;
        return done;
    }

    public int stains(int n) throws IllegalArgumentException {
        needText(n, SHORT_TEXT);
        text.begin(n);
        if (!nextMarks.read(text, lane.houses)) {
            return text.faultAnswer();
        }
        marks.copyFrom(nextMarks);
        return marks.lines;
    }

    public int fault() {
        return text.faultAt;
    }

    public int undo() {
        if (!past.takeBack(stand)) {
            return NONE;
        }
        refusedSteps = 0;
        return past.works;
    }

    public int told(int what) throws IllegalArgumentException {
        needRange(what, 0, 11);
        switch (what) {
            case 0: return lane.houses;
            case 1: return lane.things;
            case 2: return lane.tides;
            case 3: return lane.finds;
            case 4: return stand.tideToCome();
            case 5: return lane.heightOf(stand.tideToCome());
            case 6: return lane.rentHere;
            case 7: return marks.lines;
            case 8: return refusedSteps;
            case 9: return stand.goneThings(lane);
            case 10: return stand.worthLeft(lane);
            default: return stand.paidInAll(lane);
        }
    }

    public int house(int house, int what) throws NoSuchElementException, IllegalArgumentException {
        needHouse(house);
        needRange(what, 0, 4);
        switch (what) {
            case 0: return stand.of(Stand.SILL, house);
            case 1: return stand.of(Stand.BAGS, house);
            case 2: return stand.waterIn(house, lane.heightOf(stand.tideToCome()));
            case 3: return stand.thingsIn(lane, house);
            default: return stand.of(Stand.PAID, house);
        }
    }

    public int thing(int thing, int what) throws NoSuchElementException, IllegalArgumentException {
        needElement(thing, lane.things);
        needRange(what, 0, 6);
        switch (what) {
            case 0: return at(lane.weights, thing);
            case 1: return at(lane.floats, thing);
            case 2: return stand.of(Stand.WORTH, thing);
            case 3: return stand.of(Stand.WHERE, thing);
            case 4: return stand.of(Stand.UP, thing);
            case 5: return stand.of(Stand.TIED, thing);
            default: return stand.of(Stand.WORN, thing);
        }
    }

    public int height(int n) throws IllegalArgumentException {
        needRange(n, 0, 99);
        return lane.heightOf(stand.tideToCome() + n);
    }

    public int find(int find, int what) throws NoSuchElementException, IllegalArgumentException {
        needElement(find, lane.finds);
        needRange(what, 0, 1);
        return what == 0 ? at(lane.findWorths, find) : at(lane.findChances, find);
    }

    public int due(int house) throws NoSuchElementException {
        needHouse(house);
        return course.paidAhead(house, 1);
    }

    public int would(int depth, int lost, int wet, int tide, int rent, int house) throws IllegalArgumentException {
        needRange(depth, 1, MOST_HEIGHT);
        needRange(lost, 0, MOST_THINGS);
        needRange(wet, 0, MOST_THINGS);
        needRange(tide, 0, 999);
        needRange(rent, 0, MOST_RENT);
        needRange(house, 0, MOST_HOUSES - 1);
        return rule.dueBy(depth, lost, wet, tide, rent, house);
    }

    public int ahead(int n, int what) throws IllegalArgumentException {
        needRange(n, 0, FAR);
        needRange(what, 0, 3);
        return course.standAhead(n, what);
    }

    public int comes(int house) throws NoSuchElementException {
        needHouse(house);
        return course.firstInto(house);
    }

    public int spring(int what) throws IllegalArgumentException {
        needRange(what, 0, 1);
        int highest = course.highestAhead();
        return what == 0 ? highest : course.heightAhead(highest);
    }

    public int carry(int c, int n, int what) throws IllegalArgumentException {
        needRange(c, 0, 99);
        needRange(n, 0, NEAR);
        needRange(what, 0, 1);
        return course.bestCarried(c, n, what);
    }

    public int rent(int x, int n) throws IllegalArgumentException {
        needRange(x, 0, 9999);
        needRange(n, 0, NEAR);
        return course.leastRent(x, n);
    }

    public int bags(int houses, int n) throws IllegalArgumentException {
        needHouses(houses);
        needRange(n, 0, NEAR);
        return course.fewestBags(houses, n);
    }

    public int parlour(int k, int q, int what) throws IllegalArgumentException {
        needRange(k, 0, 12);
        needRange(q, 0, 16);
        needRange(what, 0, 2);
        return Parlour.rests(k, q, what);
    }

    public int in(int what) throws IllegalArgumentException {
        needRange(what, 0, 2);
        if (what == 0) {
            return marks.setsLeft(lane, stand);
        }
        int fitting = marks.fittingTides(lane, stand);
        int first = fitting & -fitting;
        if (what == 1) {
            return fitting == 0 ? NONE : first;
        }
        // Each fitting TIDE alone is such a set, so that two of them leave no TIDE in all sets.
        return first == fitting ? first : 0;
    }

    public int board(int what) throws IllegalArgumentException {
        needRange(what, 0, 1);
        int best = marks.nextBoard(lane, stand);
        return what == 0 || best == NONE ? best : marks.worstLeft(lane, stand, best);
    }

    public int drift(int house, int f, int n) throws NoSuchElementException, IllegalArgumentException {
        needHouse(house);
        needRange(f, 1, MOST_FLOAT);
        needRange(n, 0, NEAR);
        return course.driftFrom(house, f, n);
    }

    public int whence(int house, int n, int what) throws NoSuchElementException, IllegalArgumentException {
        needHouse(house);
        needRange(n, 0, NEAR);
        needRange(what, 0, 2);
        return course.driftsTo(house, n, what);
    }

    public int gain(int house, int n, int part) throws NoSuchElementException, IllegalArgumentException {
        needHouse(house);
        needRange(n, 0, FAR);
        needRange(part, 0, 1);
        return course.meanFound(house, n, part);
    }

    public int share(int house, int houses, int n) throws NoSuchElementException, IllegalArgumentException {
        needHouse(house);
        needHouses(houses);
        needRange(n, 0, 999);
        if ((houses >> house & 1) == 0) {
            return 0;
        }
        return Math.min(stand.of(Stand.PAID, house), stand.greatestBound(lane, houses, n));
    }

    public int soaked(int thing, int n) throws NoSuchElementException, IllegalArgumentException {
        needElement(thing, lane.things);
        needRange(n, 0, FAR);
        return course.timesWet(thing, n);
    }

    public int snaps(int thing) throws NoSuchElementException {
        needElement(thing, lane.things);
        return course.breakOf(thing);
    }

    public int fullest(int what) throws IllegalArgumentException {
        needRange(what, 0, 1);
        int best = NONE;
        int most = 0;
        for (int house = 0; house < lane.houses; house++) {
            int here = Integer.bitCount(stand.thingsIn(lane, house));
            if (here > most) {
                best = house;
                most = here;
            }
        }
        return what == 0 || best == NONE ? best : most;
    }

    public int pays(int house, int n) throws NoSuchElementException, IllegalArgumentException {
        needHouse(house);
        needRange(n, 0, FAR);
        return course.paidAhead(house, n);
    }

    public int neap(int what) throws IllegalArgumentException {
        needRange(what, 0, 1);
        return course.longestDry(what);
    }

    public int loads(int house, int what) throws NoSuchElementException, IllegalArgumentException {
        needHouse(house);
        needRange(what, 0, 1);
        int sum = 0;
        for (int thing = 0; thing < lane.things; thing++) {
            if (stand.of(Stand.WHERE, thing) == house && stand.of(Stand.UP, thing) == what) {
                sum += at(lane.weights, thing);
            }
        }
        return sum;
    }

    public int dearest(int what) throws IllegalArgumentException {
        needRange(what, 0, 1);
        int best = NONE;
        int most = 0;
        for (int house = 0; house < lane.houses; house++) {
            int paid = stand.of(Stand.PAID, house);
            if (paid > most) {
                best = house;
                most = paid;
            }
        }
        return what == 0 || best == NONE ? best : most;
    }

    public int dry(int houses, int n) throws IllegalArgumentException {
        needHouses(houses);
        needRange(n, 0, FAR);
        int dryTides = 0;
        for (int next = 0; next < n; next++) {
            if (!course.comesIntoAny(houses, next)) {
                dryTides++;
            }
        }
        return dryTides;
    }

    public int year(int seed, int tides, int q, int k, int what) throws IllegalArgumentException {
        needYear(tides, q, k);
        needRange(what, 0, 3);
        return course.yearBy(seed, tides, q, k, what);
    }

    public int span(int seed, int many, int tides, int q, int k, int what, int thing) throws IllegalArgumentException {
        needRange(many, 1, 20);
        needYear(tides, q, k);
        needRange(what, 0, 2);
        needRange(thing, 0, lane.things - 1);
        int fewest = MOST_THINGS;
        int most = 0;
        int kept = 0;
        for (int year = 0; year < many; year++) {
            course.goYear(seed + year, tides, q, k);
            fewest = Math.min(fewest, course.goneThen());
            most = Math.max(most, course.goneThen());
            kept += course.isGoneThen(thing) ? 0 : 1;
        }
        return what == 0 ? fewest : what == 1 ? most : kept;
    }

    public int image() {
        return past.addImage(stand) ? past.images : NONE;
    }

    public int restore() {
        if (!past.takeImage(stand)) {
            return NONE;
        }
        refusedSteps = 0;
        return past.images;
    }

    public int status(int what) {
        return what == 0 ? missingCalls : what == 1 ? illegalCalls : NONE;
    }

    public int count(int what) {
        return what == 0 ? past.images : what == 1 ? text.held : what == 2 ? past.works : NONE;
    }

    private void openStreet() {
        rule.beDefault();
        marks.clear();
        past.clear();
        stand.open(lane);
        refusedSteps = 0;
    }

    private void needElement(int number, int many) {
        if (number < 0 || number >= many) {
            missingCalls++;
            throw new NoSuchElementException("there is no such one");
        }
    }

    private void needHouse(int house) {
        needElement(house, lane.houses);
    }

    private void needRange(int number, int low, int high) {
        if (number < low || number > high) {
            illegalCalls++;
            throw new IllegalArgumentException("a number is out of its range");
        }
    }

    private void needHouses(int houses) {
        needRange(houses, 0, (1 << lane.houses) - 1);
    }

    private void needText(int n, int most) {
        needRange(n, 0, Math.min(most, text.held));
    }

    private void needYear(int tides, int q, int k) {
        needRange(tides, 1, 96);
        needRange(q, 0, 16);
        needRange(k, 0, 20);
    }

    private static int at(int[] row, int place) {
        return place >= 0 && place < row.length ? row[place] : 0;
    }

    private static void put(int[] row, int place, int value) {
        if (place >= 0 && place < row.length) {
            row[place] = value;
        }
    }

    private static void copyRow(int[] from, int start, int[] to, int place, int many) {
        if (many >= 0 && start >= 0 && place >= 0 && start <= from.length - many && place <= to.length - many) {
            System.arraycopy(from, start, to, place, many);
        }
    }

    private static void copyWhole(int[] from, int[] to) {
        copyRow(from, 0, to, 0, from.length);
    }

    /** The TAPE, and how a text at its front is read: number by number, word by word, sign by sign. */
    private static final class Text {
        private static final int BLANK = 32;
        // Above all numbers of a text, so that any count of digits can be read without a wrap.
        private static final int HUGE = 100000;

        private final int[] bytes = new int[TAPE_BYTES];
        private int held;
        private int length;
        private int next;
        private int tokenAt;
        private int tokenEnd;
        private int faultKind;
        private int faultAt = NONE;

        private boolean hasRoom(int many) {
            return held + many <= TAPE_BYTES;
        }

        private void addNumber(int number) {
            for (int shift = 24; shift >= 0; shift -= 8) {
                put(bytes, held, number >> shift & 255);
                held++;
            }
        }

        /** The first n bytes are the text now, and the TAPE is empty; the bytes stay to be read. */
        private void begin(int n) {
            length = n;
            held = 0;
            next = 0;
            tokenAt = 0;
            tokenEnd = 0;
            faultKind = 0;
            faultAt = NONE;
        }

        private int faultAnswer() {
            return faultKind - 10;
        }

        private boolean failHere(int kind) {
            faultKind = kind;
            faultAt = next;
            return false;
        }

        private boolean failToken(int kind) {
            faultKind = kind;
            faultAt = tokenAt;
            return false;
        }

        /** The byte behind the blanks, not taken; NONE at the end. */
        private int peek() {
            int end = Math.min(length, bytes.length);
            while (next >= 0 && next < end && bytes[next] == BLANK) {
                next++;
            }
            return next >= 0 && next < end ? bytes[next] : NONE;
        }

        private boolean isEnded() {
            return peek() == NONE;
        }

        private void skipSign() {
            next++;
        }

        private boolean takeSign(int sign) {
            if (peek() != sign) {
                return failHere(FAULT_PLACE);
            }
            next++;
            return true;
        }

        /** NONE behind a FAULT. */
        private int takeNumber(int low, int high) {
            if (!isDigit(peek())) {
                failHere(FAULT_PLACE);
                return NONE;
            }
            tokenAt = next;
            int number = 0;
            while (next < length && isDigit(at(bytes, next))) {
                number = Math.min(HUGE, number * 10 + at(bytes, next) - '0');
                next++;
            }
            tokenEnd = next;
            if (number < low || number > high) {
                failToken(FAULT_NUMBER);
                return NONE;
            }
            return number;
        }

        private boolean takeWord() {
            if (!isLetter(peek())) {
                return failHere(FAULT_PLACE);
            }
            tokenAt = next;
            while (next < length && isLetter(at(bytes, next))) {
                next++;
            }
            tokenEnd = next;
            return true;
        }

        private boolean isWord(String word) {
            if (tokenEnd - tokenAt != word.length()) {
                return false;
            }
            for (int letter = 0; letter < word.length(); letter++) {
                int place = tokenAt + letter;
                if (place < 0 || place >= bytes.length || bytes[place] != word.charAt(letter)) {
                    return false;
                }
            }
            return true;
        }

        private static boolean isDigit(int sign) {
            return sign >= '0' && sign <= '9';
        }

        private static boolean isLetter(int sign) {
            return sign >= 'a' && sign <= 'z';
        }
    }

    /** What a STREET tells; WORK never changes it. */
    private static final class Street {
        private static final int USUAL_RENT = 10;
        private static final int USUAL_ROPE = 3;

        private final int[] sills = new int[MOST_HOUSES];
        private final int[] homes = new int[MOST_THINGS];
        private final int[] weights = new int[MOST_THINGS];
        private final int[] floats = new int[MOST_THINGS];
        private final int[] worths = new int[MOST_THINGS];
        private final int[] heights = new int[MOST_TIDES];
        private final int[] findWorths = new int[MOST_FINDS];
        private final int[] findChances = new int[MOST_FINDS];
        private int houses;
        private int things;
        private int tides;
        private int finds;
        private int rentHere = USUAL_RENT;
        private int rope = USUAL_ROPE;

        private void copyFrom(Street other) {
            copyWhole(other.sills, sills);
            copyWhole(other.homes, homes);
            copyWhole(other.weights, weights);
            copyWhole(other.floats, floats);
            copyWhole(other.worths, worths);
            copyWhole(other.heights, heights);
            copyWhole(other.findWorths, findWorths);
            copyWhole(other.findChances, findChances);
            houses = other.houses;
            things = other.things;
            tides = other.tides;
            finds = other.finds;
            rentHere = other.rentHere;
            rope = other.rope;
        }

        private int heightOf(int tide) {
            return tides > 0 && tide >= 0 ? at(heights, tide % tides) : 0;
        }

        private boolean read(Text text) {
            houses = 0;
            things = 0;
            tides = 0;
            finds = 0;
            rentHere = USUAL_RENT;
            rope = USUAL_ROPE;
            for (int clauses = 0; clauses <= MOST_CLAUSES; clauses++) {
                if (text.isEnded()) {
                    return true;
                }
                if (!text.takeWord() || !readClause(text, clauses == MOST_CLAUSES) || !text.takeSign(';')) {
                    return false;
                }
            }
            return false;
        }

        private boolean readClause(Text text, boolean full) {
            if (text.isWord("house")) {
                return full || houses == MOST_HOUSES ? text.failToken(FAULT_MANY) : readHouse(text);
            }
            if (text.isWord("thing")) {
                return full || things == MOST_THINGS ? text.failToken(FAULT_MANY) : readThing(text);
            }
            if (text.isWord("tide")) {
                return full || tides == MOST_TIDES ? text.failToken(FAULT_MANY) : readTide(text);
            }
            if (text.isWord("find")) {
                return full || finds == MOST_FINDS ? text.failToken(FAULT_MANY) : readFind(text);
            }
            if (text.isWord("rent")) {
                return full ? text.failToken(FAULT_MANY) : readRent(text);
            }
            if (text.isWord("rope")) {
                return full ? text.failToken(FAULT_MANY) : readRope(text);
            }
            return text.failToken(FAULT_PLACE);
        }

        private boolean readInto(Text text, int[] row, int place, int low, int high) {
            int number = text.takeNumber(low, high);
            put(row, place, number);
            return number != NONE;
        }

        private boolean readHouse(Text text) {
            boolean good = readInto(text, sills, houses, 0, 40);
            houses++;
            return good;
        }

        private boolean readThing(Text text) {
            boolean good = readInto(text, homes, things, 0, houses - 1)
                    && readInto(text, weights, things, 1, 9)
                    && readInto(text, floats, things, 1, MOST_FLOAT)
                    && readInto(text, worths, things, 0, 40);
            things++;
            return good;
        }

        private boolean readTide(Text text) {
            boolean good = readInto(text, heights, tides, 0, MOST_HEIGHT);
            tides++;
            return good;
        }

        private boolean readFind(Text text) {
            boolean good = readInto(text, findWorths, finds, 1, 40) && readInto(text, findChances, finds, 0, 16);
            finds++;
            return good;
        }

        private boolean readRent(Text text) {
            rentHere = text.takeNumber(0, MOST_RENT);
            return rentHere != NONE;
        }

        private boolean readRope(Text text) {
            rope = text.takeNumber(1, 9);
            return rope != NONE;
        }
    }

    /** A LAW, kept as codes that work on a stack: each name and number lays one on it, each sign makes one of two. */
    private static final class Law {
        private static final int DEPTH = 0;
        private static final int LOST = 1;
        private static final int WET = 2;
        private static final int TIDE = 3;
        private static final int MOON = 4;
        private static final int RENT = 5;
        private static final int HOUSE = 6;
        private static final int NAMES = 7;
        private static final int NUMBER = 7;
        private static final int PLUS = 8;
        private static final int MINUS = 9;
        private static final int TIMES = 10;
        private static final int OVER = 11;
        private static final int LEAST = 12;
        private static final int MOST = 13;

        private final int[] codes = new int[LONG_TEXT];
        private final int[] numbers = new int[LONG_TEXT];
        private final int[] given = new int[NAMES];
        private final int[] stack = new int[LONG_TEXT];
        private int size;

        private void copyFrom(Law other) {
            copyWhole(other.codes, codes);
            copyWhole(other.numbers, numbers);
            size = other.size;
        }

        private void beDefault() {
            size = 0;
            add(DEPTH);
            addConstant(4);
            add(OVER);
            add(LOST);
            addConstant(3);
            add(TIMES);
            add(PLUS);
            add(RENT);
            add(MINUS);
        }

        private boolean add(int code) {
            put(codes, size, code);
            size++;
            return true;
        }

        private boolean addConstant(int number) {
            put(numbers, size, number);
            put(codes, size, NUMBER);
            size++;
            return true;
        }

        private boolean read(Text text) {
            size = 0;
            return readSum(text, 0) && (text.isEnded() || text.failHere(FAULT_PLACE));
        }

        private boolean readSum(Text text, int open) {
            if (!readProduct(text, open)) {
                return false;
            }
            for (int more = 0; more < LONG_TEXT; more++) {
                int sign = text.peek();
                if (sign != '+' && sign != '-') {
                    return true;
                }
                text.skipSign();
                if (!readProduct(text, open)) {
                    return false;
                }
                add(sign == '+' ? PLUS : MINUS);
            }
            return true;
        }

        private boolean readProduct(Text text, int open) {
            if (!readUnit(text, open)) {
                return false;
            }
            for (int more = 0; more < LONG_TEXT; more++) {
                int sign = text.peek();
                if (sign != '*' && sign != '/') {
                    return true;
                }
                text.skipSign();
                if (!readUnit(text, open)) {
                    return false;
                }
                add(sign == '*' ? TIMES : OVER);
            }
            return true;
        }

        private boolean readUnit(Text text, int open) {
            int sign = text.peek();
            if (Text.isDigit(sign)) {
                int number = text.takeNumber(0, 999);
                return number != NONE && addConstant(number);
            }
            if (sign == '(') {
                if (open >= MOST_OPEN) {
                    return text.failHere(FAULT_MANY);
                }
                text.skipSign();
                return readSum(text, open + 1) && text.takeSign(')');
            }
            if (!text.takeWord()) {
                return false;
            }
            int word = codeOf(text);
            if (word == LEAST || word == MOST) {
                return readPair(text, open) && add(word);
            }
            return word == NONE ? text.failToken(FAULT_PLACE) : add(word);
        }

        private boolean readPair(Text text, int open) {
            if (open >= MOST_OPEN) {
                return text.failToken(FAULT_MANY);
            }
            return text.takeSign('[') && readSum(text, open + 1)
                    && text.takeSign(',') && readSum(text, open + 1) && text.takeSign(']');
        }

        private static int codeOf(Text text) {
            return text.isWord("depth") ? DEPTH
                    : text.isWord("lost") ? LOST
                    : text.isWord("wet") ? WET
                    : text.isWord("tide") ? TIDE
                    : text.isWord("moon") ? MOON
                    : text.isWord("rent") ? RENT
                    : text.isWord("house") ? HOUSE
                    : text.isWord("least") ? LEAST
                    : text.isWord("most") ? MOST : NONE;
        }

        private int dueBy(int depth, int lost, int wet, int tide, int rent, int house) {
            put(given, DEPTH, depth);
            put(given, LOST, lost);
            put(given, WET, wet);
            put(given, TIDE, tide);
            put(given, MOON, tide % 8);
            put(given, RENT, rent);
            put(given, HOUSE, house);
            int top = NONE;
            for (int place = 0; place < size; place++) {
                int code = at(codes, place);
                if (code <= NUMBER) {
                    top++;
                    put(stack, top, code == NUMBER ? at(numbers, place) : at(given, code));
                } else {
                    top--;
                    put(stack, top, outOf(code, at(stack, top), at(stack, top + 1)));
                }
            }
            return Math.max(0, Math.min(MOST_DUE, at(stack, 0)));
        }

        private static int outOf(int code, int left, int right) {
            switch (code) {
                case PLUS: return left + right;
                case MINUS: return left - right;
                case TIMES: return left * right;
                case OVER: return right == 0 ? 0 : left / right;
                case LEAST: return Math.min(left, right);
                default: return Math.max(left, right);
            }
        }
    }

    /** WORK: its STEPS in a row; an again stands ahead of its STEPS, and its end behind them. */
    private static final class Steps {
        private static final int LIFT = 0;
        private static final int LOWER = 1;
        private static final int TIE = 2;
        private static final int UNTIE = 3;
        private static final int BAG = 4;
        private static final int TIDE = 5;
        private static final int AGAIN = 6;
        private static final int END = 7;
        private static final int MOST_ROUNDS = 20;
        // 200 STEPS at most, and 20 ends at most for each of them that is an again.
        private static final int MOST_MOVES = 10000;

        private final int[] kinds = new int[LONG_TEXT];
        private final int[] numbers = new int[LONG_TEXT];
        private final int[] partners = new int[LONG_TEXT];
        private final int[] openAt = new int[MOST_OPEN];
        private final int[] rounds = new int[MOST_OPEN];
        private int size;
        private int open;
        private int refused;

        private void add(int kind, int number) {
            put(kinds, size, kind);
            put(numbers, size, number);
            size++;
        }

        private boolean read(Text text, Street street) {
            size = 0;
            open = 0;
            for (int read = 0; read <= LONG_TEXT; read++) {
                if (text.isEnded()) {
                    return open == 0 || text.failHere(FAULT_PLACE);
                }
                boolean isEnd = open > 0 && text.peek() == ']';
                if (isEnd ? !readEnd(text) : !readStep(text, street)) {
                    return false;
                }
            }
            return false;
        }

        private boolean readEnd(Text text) {
            text.skipSign();
            open--;
            int start = at(openAt, open);
            put(partners, start, size);
            put(partners, size, start);
            add(END, 0);
            return text.takeSign(';');
        }

        private boolean readStep(Text text, Street street) {
            if (!text.takeWord()) {
                return false;
            }
            int kind = kindOf(text);
            if (kind == NONE) {
                return text.failToken(FAULT_PLACE);
            }
            if (kind == AGAIN) {
                return readAgain(text);
            }
            int number = 0;
            if (kind != TIDE) {
                number = text.takeNumber(0, (kind == BAG ? street.houses : street.things) - 1);
            }
            add(kind, number);
            return number != NONE && text.takeSign(';');
        }

        private boolean readAgain(Text text) {
            if (open >= MOST_OPEN) {
                return text.failToken(FAULT_MANY);
            }
            int many = text.takeNumber(0, MOST_ROUNDS);
            if (many == NONE) {
                return false;
            }
            put(openAt, open, size);
            open++;
            add(AGAIN, many);
            return text.takeSign('[');
        }

        private static int kindOf(Text text) {
            return text.isWord("lift") ? LIFT
                    : text.isWord("lower") ? LOWER
                    : text.isWord("tie") ? TIE
                    : text.isWord("untie") ? UNTIE
                    : text.isWord("bag") ? BAG
                    : text.isWord("tide") ? TIDE
                    : text.isWord("again") ? AGAIN : NONE;
        }

        /** How many STEPS were done; how many were REFUSED is kept. */
        private int doAll(Stand stand, Street street, Law law) {
            refused = 0;
            int done = 0;
            int begun = 0;
            int deep = 0;
            int next = 0;
            for (int moves = 0; moves < MOST_MOVES && next < size; moves++) {
                int kind = at(kinds, next);
                if (kind == END) {
                    int left = at(rounds, deep - 1) - 1;
                    put(rounds, deep - 1, left);
                    deep -= left > 0 ? 0 : 1;
                    next = left > 0 ? at(partners, next) + 1 : next + 1;
                    continue;
                }
                if (begun == MOST_STEPS) {
                    break;
                }
                begun++;
                int number = at(numbers, next);
                if (kind == AGAIN && number == 0) {
                    next = at(partners, next);
                } else if (kind == AGAIN) {
                    put(rounds, deep, number);
                    deep++;
                } else if (doStep(kind, number, stand, street, law)) {
                    done++;
                } else {
                    refused++;
                }
                next++;
            }
            return done;
        }

        private static boolean doStep(int kind, int number, Stand stand, Street street, Law law) {
            switch (kind) {
                case LIFT: return stand.lift(number);
                case LOWER: return stand.lower(number);
                case TIE: return stand.tie(number);
                case UNTIE: return stand.untie(number);
                case BAG: return stand.addBag(number);
                default: return stand.comeIn(street, law);
            }
        }
    }

    /** STAINS: how high each HOUSE is marked, NONE for those in no line. */
    private static final class Marks {
        private final int[] highs = new int[MOST_HOUSES];
        private final int[] leftBy = new int[MOST_HEIGHT + 1];
        private int lines;

        private void clear() {
            lines = 0;
            for (int house = 0; house < MOST_HOUSES; house++) {
                put(highs, house, NONE);
            }
        }

        private void copyFrom(Marks other) {
            copyWhole(other.highs, highs);
            lines = other.lines;
        }

        private boolean read(Text text, int houses) {
            clear();
            // No HOUSE has two lines, so that each text ends or faults within these rounds.
            for (int line = 0; line <= MOST_HOUSES; line++) {
                if (text.isEnded()) {
                    return true;
                }
                if (!readLine(text, houses)) {
                    return false;
                }
            }
            return false;
        }

        private boolean readLine(Text text, int houses) {
            int house = text.takeNumber(0, houses - 1);
            if (house == NONE) {
                return false;
            }
            if (at(highs, house) != NONE) {
                return text.failToken(FAULT_NUMBER);
            }
            int high = text.takeNumber(0, MOST_HEIGHT);
            if (high == NONE) {
                return false;
            }
            put(highs, house, high);
            lines++;
            return text.takeSign(';');
        }

        /** Whether the lines are as they are, if the highest TIDE that came in was of this HEIGHT. */
        private boolean fits(Street street, Stand stand, int height) {
            for (int house = 0; house < street.houses; house++) {
                int high = at(highs, house);
                if (high != NONE && high != stand.waterIn(house, height)) {
                    return false;
                }
            }
            return true;
        }

        private int fittingTides(Street street, Stand stand) {
            int fitting = 0;
            for (int tide = 0; tide < street.tides; tide++) {
                if (fits(street, stand, street.heightOf(tide))) {
                    fitting |= 1 << tide;
                }
            }
            return fitting;
        }

        /** How many sets of told TIDES have this HEIGHT as their greatest: it alone makes all WATER of a set. */
        private static int setsUnder(Street street, int height) {
            int below = 0;
            int alike = 0;
            for (int tide = 0; tide < street.tides; tide++) {
                below += street.heightOf(tide) < height ? 1 : 0;
                alike += street.heightOf(tide) == height ? 1 : 0;
            }
            return ((1 << alike) - 1) * (1 << below);
        }

        private int setsLeft(Street street, Stand stand) {
            int sets = 0;
            for (int height = 0; height <= MOST_HEIGHT; height++) {
                sets += fits(street, stand, height) ? setsUnder(street, height) : 0;
            }
            return sets;
        }

        private int worstLeft(Street street, Stand stand, int house) {
            for (int high = 0; high <= MOST_HEIGHT; high++) {
                put(leftBy, high, 0);
            }
            int worst = 0;
            for (int height = 0; height <= MOST_HEIGHT; height++) {
                if (fits(street, stand, height)) {
                    int water = stand.waterIn(house, height);
                    int sets = at(leftBy, water) + setsUnder(street, height);
                    put(leftBy, water, sets);
                    worst = Math.max(worst, sets);
                }
            }
            return worst;
        }

        private int nextBoard(Street street, Stand stand) {
            int best = NONE;
            int fewest = 0;
            for (int house = 0; house < street.houses; house++) {
                if (at(highs, house) != NONE) {
                    continue;
                }
                int worst = worstLeft(street, stand, house);
                if (best == NONE || worst < fewest) {
                    best = house;
                    fewest = worst;
                }
            }
            return best;
        }
    }

    /** How all stands that WORK changes, in one row, and what the latest TIDE did. */
    private static final class Stand {
        private static final int WHERE = 0;
        private static final int UP = 10;
        private static final int TIED = 20;
        private static final int WORN = 30;
        private static final int WORTH = 40;
        private static final int SILL = 50;
        private static final int BAGS = 56;
        private static final int PAID = 62;
        private static final int TIDE = 68;
        private static final int CELLS = 69;

        private final int[] cells = new int[CELLS];
        private final int[] depths = new int[MOST_HOUSES];
        private final int[] losts = new int[MOST_HOUSES];
        private final int[] wets = new int[MOST_HOUSES];

        private int of(int group, int number) {
            int cell = group + number;
            return cell >= 0 && cell < cells.length ? cells[cell] : 0;
        }

        private void set(int group, int number, int value) {
            int cell = group + number;
            if (cell >= 0 && cell < cells.length) {
                cells[cell] = value;
            }
        }

        private void open(Street street) {
            for (int cell = 0; cell < CELLS; cell++) {
                put(cells, cell, 0);
            }
            for (int house = 0; house < street.houses; house++) {
                set(SILL, house, at(street.sills, house));
            }
            for (int thing = 0; thing < street.things; thing++) {
                set(WHERE, thing, at(street.homes, thing));
                set(WORTH, thing, at(street.worths, thing));
            }
        }

        private int tideToCome() {
            return of(TIDE, 0);
        }

        private boolean isGone(int thing) {
            return of(WHERE, thing) == NONE;
        }

        private boolean isDown(int thing) {
            return of(WHERE, thing) != NONE && of(UP, thing) == 0;
        }

        private int waterIn(int house, int height) {
            return Math.max(0, height - of(SILL, house));
        }

        private int goneThings(Street street) {
            int gone = 0;
            for (int thing = 0; thing < street.things; thing++) {
                gone += isGone(thing) ? 1 : 0;
            }
            return gone;
        }

        private int worthLeft(Street street) {
            int worth = 0;
            for (int thing = 0; thing < street.things; thing++) {
                worth += isGone(thing) ? 0 : of(WORTH, thing);
            }
            return worth;
        }

        private int paidInAll(Street street) {
            int paid = 0;
            for (int house = 0; house < street.houses; house++) {
                paid += of(PAID, house);
            }
            return paid;
        }

        private int thingsIn(Street street, int house) {
            int bits = 0;
            for (int thing = 0; thing < street.things; thing++) {
                if (of(WHERE, thing) == house) {
                    bits |= 1 << thing;
                }
            }
            return bits;
        }

        private int givenUnder(Street street, int houses, int bound) {
            int given = 0;
            for (int house = 0; house < street.houses; house++) {
                given += (houses >> house & 1) == 0 ? 0 : Math.min(bound, of(PAID, house));
            }
            return given;
        }

        /** By n itself all get theirs, if they are no more than n: no greater bound is looked at. */
        private int greatestBound(Street street, int houses, int n) {
            for (int bound = n; bound > 0; bound--) {
                if (givenUnder(street, houses, bound) <= n) {
                    return bound;
                }
            }
            return 0;
        }

        private boolean lift(int thing) {
            if (!isDown(thing) || of(TIED, thing) == 1) {
                return false;
            }
            set(UP, thing, 1);
            return true;
        }

        private boolean lower(int thing) {
            if (of(UP, thing) == 0) {
                return false;
            }
            set(UP, thing, 0);
            return true;
        }

        private boolean tie(int thing) {
            if (!isDown(thing) || of(TIED, thing) == 1) {
                return false;
            }
            set(TIED, thing, 1);
            set(WORN, thing, 0);
            return true;
        }

        private boolean untie(int thing) {
            if (of(TIED, thing) == 0) {
                return false;
            }
            set(TIED, thing, 0);
            set(WORN, thing, 0);
            return true;
        }

        private boolean addBag(int house) {
            if (of(BAGS, house) >= MOST_BAGS) {
                return false;
            }
            set(BAGS, house, of(BAGS, house) + 1);
            set(SILL, house, of(SILL, house) + 2);
            return true;
        }

        private boolean comeIn(Street street, Law law) {
            if (tideToCome() >= LAST_TIDE) {
                return false;
            }
            pass(street, street.heightOf(tideToCome()));
            payDues(street, law, street.rentHere);
            return true;
        }

        /** A TIDE goes by, all but its DUES; each THING meets it once, where it is ahead of it. */
        private void pass(Street street, int height) {
            for (int house = 0; house < street.houses; house++) {
                put(depths, house, waterIn(house, height));
                put(losts, house, 0);
                put(wets, house, 0);
            }
            for (int thing = 0; thing < street.things; thing++) {
                int house = of(WHERE, thing);
                if (isDown(thing) && at(depths, house) > 0) {
                    soak(street, thing, house);
                }
            }
            set(TIDE, 0, tideToCome() + 1);
        }

        private void soak(Street street, int thing, int house) {
            put(wets, house, at(wets, house) + 1);
            set(WORTH, thing, Math.max(0, of(WORTH, thing) - 1));
            if (at(street.floats, thing) > at(depths, house)) {
                return;
            }
            if (of(TIED, thing) == 0) {
                put(losts, house, at(losts, house) + 1);
                set(WHERE, thing, house + 1 < street.houses ? house + 1 : NONE);
                return;
            }
            int worn = of(WORN, thing) + 1;
            boolean holds = worn < street.rope;
            set(TIED, thing, holds ? 1 : 0);
            set(WORN, thing, holds ? worn : 0);
        }

        /** The DUES of the TIDE that went by last. */
        private void payDues(Street street, Law law, int rent) {
            for (int house = 0; house < street.houses; house++) {
                int depth = at(depths, house);
                if (depth > 0) {
                    int lost = at(losts, house);
                    int due = law.dueBy(depth, lost, at(wets, house), tideToCome() - 1, rent, house);
                    set(PAID, house, of(PAID, house) + due);
                }
            }
        }
    }

    /** What can be undone, and the IMAGES: rows of cells, one behind the other. */
    private static final class Past {
        private static final int WORK_CELLS = MOST_WORKS * Stand.CELLS;
        // An IMAGE: how many WORKS can be undone, how all stands, and how it stood ahead of each of these WORKS.
        private static final int STAND_AT = 1;
        private static final int WORKS_AT = STAND_AT + Stand.CELLS;
        private static final int IMAGE_CELLS = WORKS_AT + WORK_CELLS;

        private final int[] workRows = new int[WORK_CELLS];
        private final int[] imageRows = new int[MOST_IMAGES * IMAGE_CELLS];
        private int works;
        private int images;

        private void clear() {
            works = 0;
            images = 0;
        }

        private boolean isFull() {
            return works >= MOST_WORKS;
        }

        private void keep(Stand stand) {
            copyRow(stand.cells, 0, workRows, works * Stand.CELLS, Stand.CELLS);
            works++;
        }

        private boolean takeBack(Stand stand) {
            if (works == 0) {
                return false;
            }
            works--;
            copyRow(workRows, works * Stand.CELLS, stand.cells, 0, Stand.CELLS);
            return true;
        }

        private boolean addImage(Stand stand) {
            if (images >= MOST_IMAGES) {
                return false;
            }
            int start = images * IMAGE_CELLS;
            put(imageRows, start, works);
            copyRow(stand.cells, 0, imageRows, start + STAND_AT, Stand.CELLS);
            copyRow(workRows, 0, imageRows, start + WORKS_AT, WORK_CELLS);
            images++;
            return true;
        }

        private boolean takeImage(Stand stand) {
            if (images == 0) {
                return false;
            }
            images--;
            int start = images * IMAGE_CELLS;
            works = at(imageRows, start);
            copyRow(imageRows, start + STAND_AT, stand.cells, 0, Stand.CELLS);
            copyRow(imageRows, start + WORKS_AT, workRows, 0, WORK_CELLS);
            return true;
        }
    }

    /** What is asked of the next TIDES: they go by on a stand of its own, so that nothing stays changed. */
    private static final class Course {
        private static final int ALL_HOUSES = -1;

        private final Street street;
        private final Law law;
        private final Stand now;
        private final Stand then = new Stand();

        private Course(Street street, Law law, Stand now) {
            this.street = street;
            this.law = law;
            this.now = now;
        }

        private void begin() {
            copyWhole(now.cells, then.cells);
        }

        private int heightAhead(int next) {
            return street.heightOf(now.tideToCome() + next);
        }

        private int waterAhead(int house, int next) {
            return now.waterIn(house, heightAhead(next));
        }

        private boolean comesIntoAny(int houses, int next) {
            for (int house = 0; house < street.houses; house++) {
                if ((houses >> house & 1) == 1 && waterAhead(house, next) > 0) {
                    return true;
                }
            }
            return false;
        }

        private void passNext() {
            then.pass(street, street.heightOf(then.tideToCome()));
        }

        private void goAhead(int n, int rent) {
            begin();
            for (int next = 0; next < n; next++) {
                passNext();
                then.payDues(street, law, rent);
            }
        }

        private int paidThen() {
            return then.paidInAll(street) - now.paidInAll(street);
        }

        private int goneThen() {
            return then.goneThings(street);
        }

        private boolean isGoneThen(int thing) {
            return then.isGone(thing);
        }

        private int paidAhead(int house, int n) {
            goAhead(n, street.rentHere);
            return then.of(Stand.PAID, house) - now.of(Stand.PAID, house);
        }

        private int standAhead(int n, int what) {
            if (what == 3) {
                return timesInto(ALL_HOUSES, n);
            }
            goAhead(n, street.rentHere);
            return what == 0 ? then.worthLeft(street) : what == 1 ? goneThen() : paidThen();
        }

        /** How often a TIDE is in one of these HOUSES (bits). */
        private int timesInto(int houses, int n) {
            int times = 0;
            for (int house = 0; house < street.houses; house++) {
                for (int next = 0; next < n; next++) {
                    times += (houses >> house & 1) == 1 && waterAhead(house, next) > 0 ? 1 : 0;
                }
            }
            return times;
        }

        private int firstInto(int house) {
            for (int next = 0; next < FAR; next++) {
                if (waterAhead(house, next) > 0) {
                    return next;
                }
            }
            return NONE;
        }

        private int highestAhead() {
            int highest = 0;
            for (int next = 1; next < NEAR; next++) {
                if (heightAhead(next) > heightAhead(highest)) {
                    highest = next;
                }
            }
            return highest;
        }

        private int bestCarried(int c, int n, int what) {
            goAhead(n, street.rentHere);
            int best = 0;
            int most = 0;
            for (int set = 1; set < 1 << street.things; set++) {
                int saved = savedBy(set, c);
                if (saved > most) {
                    best = set;
                    most = saved;
                }
            }
            return what == 1 ? best : then.worthLeft(street) + most;
        }

        /** No THING changes what befalls another, so that a set saves what its THINGS save one by one. */
        private int savedBy(int set, int c) {
            int saved = 0;
            int weight = 0;
            for (int thing = 0; thing < street.things; thing++) {
                if ((set >> thing & 1) == 1) {
                    if (!now.isDown(thing) || now.of(Stand.TIED, thing) == 1) {
                        return NONE;
                    }
                    weight += at(street.weights, thing);
                    saved += now.of(Stand.WORTH, thing) - (then.isGone(thing) ? 0 : then.of(Stand.WORTH, thing));
                }
            }
            return weight > c ? NONE : saved;
        }

        private int leastRent(int x, int n) {
            for (int rent = 0; rent <= MOST_RENT; rent++) {
                goAhead(n, rent);
                if (paidThen() <= x) {
                    return rent;
                }
            }
            return NONE;
        }

        private int fewestBags(int houses, int n) {
            int highest = 0;
            for (int next = 0; next < n; next++) {
                highest = Math.max(highest, heightAhead(next));
            }
            int bags = 0;
            for (int house = 0; house < street.houses; house++) {
                if ((houses >> house & 1) == 1) {
                    int more = (now.waterIn(house, highest) + 1) / 2;
                    if (now.of(Stand.BAGS, house) + more > MOST_BAGS) {
                        return NONE;
                    }
                    bags += more;
                }
            }
            return bags;
        }

        private int driftFrom(int house, int f, int n) {
            int here = house;
            for (int next = 0; next < n && here < street.houses; next++) {
                here += waterAhead(here, next) >= f ? 1 : 0;
            }
            return here < street.houses ? here : NONE;
        }

        private int driftsTo(int house, int n, int what) {
            int pairs = 0;
            int houses = 0;
            int least = NONE;
            for (int f = MOST_FLOAT; f >= 1; f--) {
                for (int from = 0; from < street.houses; from++) {
                    if (driftFrom(from, f, n) == house) {
                        pairs++;
                        houses |= 1 << from;
                        least = f;
                    }
                }
            }
            return what == 0 ? pairs : what == 1 ? houses : least;
        }

        private int meanFound(int house, int n, int part) {
            int above = 0;
            for (int find = 0; find < street.finds; find++) {
                above += at(street.findWorths, find) * at(street.findChances, find);
            }
            above *= timesInto(1 << house, n);
            int below = 16;
            for (int halvings = 0; halvings < 4 && above % 2 == 0; halvings++) {
                above /= 2;
                below /= 2;
            }
            return part == 0 ? above : below;
        }

        private int timesWet(int thing, int n) {
            begin();
            int times = 0;
            for (int next = 0; next < n; next++) {
                if (then.isDown(thing) && waterAhead(then.of(Stand.WHERE, thing), next) > 0) {
                    times++;
                }
                passNext();
            }
            return times;
        }

        private int breakOf(int thing) {
            begin();
            for (int next = 0; next < FAR && then.of(Stand.TIED, thing) == 1; next++) {
                passNext();
                if (then.of(Stand.TIED, thing) == 0) {
                    return next;
                }
            }
            return NONE;
        }

        private int longestDry(int what) {
            int longest = 0;
            int start = NONE;
            int row = 0;
            for (int next = 0; next < FAR; next++) {
                row = comesIntoAny(ALL_HOUSES, next) ? 0 : row + 1;
                if (row > longest) {
                    longest = row;
                    start = next + 1 - row;
                }
            }
            return what == 0 ? longest : start;
        }

        /** A YEAR, without its DUES if they are not asked for: how many winds blow. */
        private int goYear(int seed, int tides, int q, int k) {
            return goWindy(seed, tides, q, k, false);
        }

        private int goWindy(int seed, int tides, int q, int k, boolean dues) {
            begin();
            int winds = 0;
            int drawn = seed;
            for (int tide = 0; tide < tides; tide++) {
                drawn = drawn * 1103515245 + 12345;
                boolean windy = (drawn >> 16 & 15) < q;
                winds += windy ? 1 : 0;
                then.pass(street, street.heightOf(then.tideToCome()) + (windy ? k : 0));
                if (dues) {
                    then.payDues(street, law, street.rentHere);
                }
            }
            return winds;
        }

        private int yearBy(int seed, int tides, int q, int k, int what) {
            int winds = goWindy(seed, tides, q, k, true);
            switch (what) {
                case 0: return then.worthLeft(street);
                case 1: return paidThen();
                case 2: return goneThen();
                default: return winds;
            }
        }
    }

    /** The sea and a HOUSE claim hours of one parlour; what each has is told in 16ths. */
    private static final class Parlour {
        private static int seaHas(int k, int q, int sea, int house) {
            return sea + house <= k ? 16 * sea : q;
        }

        private static int houseHas(int k, int q, int sea, int house) {
            return sea + house <= k ? 16 * house : 16 - q;
        }

        private static boolean isRest(int k, int q, int sea, int house) {
            for (int other = 0; other <= k; other++) {
                if (seaHas(k, q, other, house) > seaHas(k, q, sea, house)
                        || houseHas(k, q, sea, other) > houseHas(k, q, sea, house)) {
                    return false;
                }
            }
            return true;
        }

        private static int rests(int k, int q, int what) {
            int many = 0;
            int first = NONE;
            int both = 0;
            for (int sea = 0; sea <= k; sea++) {
                for (int house = 0; house <= k; house++) {
                    if (isRest(k, q, sea, house)) {
                        many++;
                        if (first == NONE) {
                            first = 100 * sea + house;
                            both = seaHas(k, q, sea, house) + houseHas(k, q, sea, house);
                        }
                    }
                }
            }
            return what == 0 ? many : what == 1 ? first : both;
        }
    }
}
