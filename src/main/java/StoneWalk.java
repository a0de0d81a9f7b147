import java.util.NoSuchElementException;

/** Statues that walked, or didn't: an island told as a text, and what it answers. */
public final class StoneWalk {
    public static final int NONE = -1;

    // TROUBLE.
    private static final int NO_SUCH = 1;
    private static final int BAD_NUMBER = 2;
    private static final int NO_ROOM = 3;
    private static final int FAULTY = 4;
    private static final int NOT_SO = 5;
    private static final int NOTHING = 6;

    // Answers that tell of nothing where NONE would mean a refusal, or could be an answer.
    private static final int ABSENT = -2;
    private static final int UNKNOWN = -1000;
    private static final int NO_SLOPE = -100;

    // Sorts of LINES: the first seven as size() numbers them, the last three without a NAME.
    private static final int WAYS = 0;
    private static final int ROADS = 1;
    private static final int STATUES = 2;
    private static final int TRIALS = 3;
    private static final int STORIES = 4;
    private static final int TELLERS = 5;
    private static final int THINGS = 6;
    private static final int LAND = 7;
    private static final int FIELDS = 8;
    private static final int HOUSES = 9;

    private static final int MOST_WAYS = 4;
    private static final int MOST_ROADS = 3;
    private static final int MOST_STATUES = 10;
    private static final int MOST_TRIALS = 5;
    private static final int MOST_STORIES = 5;
    private static final int MOST_TELLERS = 3;
    private static final int MOST_THINGS = 5;
    // By sort of LINE; there is one land, one fields, one houses.
    private static final int[] ROOM = {
        MOST_WAYS, MOST_ROADS, MOST_STATUES, MOST_TRIALS, MOST_STORIES, MOST_TELLERS, MOST_THINGS,
        1, 1, 1,
    };
    private static final int MOST_SORTS = 10;
    private static final int MOST_NAMES = 35;
    private static final int MOST_LYING = 8;
    private static final int MOST_SLOPES = 6;
    private static final int MOST_BYTES = 900;
    private static final int MOST_SIGHTS = 12;

    private static final int STEEPEST = 20;
    private static final int MOST_PEOPLE = 200;
    private static final int YEARS = 100;
    private static final int MOST_TREES = 9999;
    private static final int FEWEST_TREES = 10;
    private static final int LAST_SEED = 65536;
    private static final int CLEAR_TENTHS = 5;

    private final Tape tape = new Tape();
    private final Reader reader = new Reader(tape);
    private final Sights sights = new Sights();
    private Journey journey = new Journey();
    // Goes the ways that may be thrown away, so that the MOVE itself stays.
    private Journey scout = new Journey();
    private Island island = new Island();
    // A text is read into this one, so that a faulty text leaves the ISLAND as it is.
    private Island spare = new Island();
    private int trouble = 0;

    public StoneWalk() {
    }

    // ---- the island.

    public int feed(int a, int b, int c, int d, int e) {
        if (!tape.hasRoomFor(20)) {
            return NONE;
        }
        tape.put(a);
        tape.put(b);
        tape.put(c);
        tape.put(d);
        tape.put(e);
        return tape.held;
    }

    public int island(int n) {
        if (n < 0 || n > tape.held) {
            return refused(BAD_NUMBER);
        }
        boolean sound = reader.readIsland(n, spare);
        tape.empty();
        if (!sound) {
            return refused(FAULTY);
        }
        Island former = island;
        island = spare;
        spare = former;
        island.growTrees();
        journey.clear();
        sights.clear();
        return granted(island.count(STATUES));
    }

    public int fault() {
        return reader.fault;
    }

    public int where() {
        return trouble == FAULTY ? reader.place : NONE;
    }

    // ---- what can go.

    public int can(int way, int statue, int s) {
        Way by = island.wayAt(way);
        Stone stone = island.statueAt(statue);
        if (by == null || stone == null) {
            return refused(NO_SUCH);
        }
        if (!isSlope(s)) {
            return refused(BAD_NUMBER);
        }
        return granted(by.carries(stone, s) ? 1 : 0);
    }

    public int canOn(int way, int statue, int road) {
        Way by = island.wayAt(way);
        Stone stone = island.statueAt(statue);
        Road along = island.roadAt(road);
        if (by == null || stone == null || along == null) {
            return refused(NO_SUCH);
        }
        return granted(by.passable(stone, along));
    }

    public int steepest(int way, int statue, boolean down) {
        Way by = island.wayAt(way);
        Stone stone = island.statueAt(statue);
        if (by == null || stone == null) {
            return unknown(NO_SUCH);
        }
        return granted(by.limit(stone, down));
    }

    public int need(int way, int statue, int s) {
        Way by = island.wayAt(way);
        Stone stone = island.statueAt(statue);
        if (by == null || stone == null) {
            return refused(NO_SUCH);
        }
        if (!isSlope(s)) {
            return refused(BAD_NUMBER);
        }
        return granted(by.hands(stone.tons, s));
    }

    public int minutes(int way, int statue, int s, int people) {
        Way by = island.wayAt(way);
        Stone stone = island.statueAt(statue);
        if (by == null || stone == null) {
            return refused(NO_SUCH);
        }
        if (!isSlope(s) || !isCrowd(people)) {
            return refused(BAD_NUMBER);
        }
        return granted(by.duration(stone.tons, s, people));
    }

    public int chance(int way, int statue, int s) {
        Way by = island.wayAt(way);
        Stone stone = island.statueAt(statue);
        if (by == null || stone == null) {
            return refused(NO_SUCH);
        }
        if (!isSlope(s)) {
            return refused(BAD_NUMBER);
        }
        return granted(by.risk(stone.edge, s));
    }

    public int lying(int way, int s, int lie) {
        Way by = island.wayAt(way);
        if (by == null || !isLie(lie)) {
            return refused(NO_SUCH);
        }
        if (!isSlope(s)) {
            return refused(BAD_NUMBER);
        }
        return granted(by.tenths(s, lie));
    }

    public int easiest(int statue, int road) {
        Stone stone = island.statueAt(statue);
        Road along = island.roadAt(road);
        if (stone == null || along == null) {
            return refused(NO_SUCH);
        }
        return granted(island.easiestWay(stone, along));
    }

    // ---- moves.

    public boolean seed(int v) {
        if (island.isBare()) {
            return denied(NO_SUCH);
        }
        if (v < 0 || v > LAST_SEED) {
            return denied(BAD_NUMBER);
        }
        journey.seed = v;
        return allowed();
    }

    public boolean move(int statue, int way, int road, int people) {
        if (!island.has(STATUES, statue) || !island.has(WAYS, way) || !island.has(ROADS, road)) {
            return denied(NO_SUCH);
        }
        if (!isCrowd(people)) {
            return denied(BAD_NUMBER);
        }
        journey.begin(statue, way, road, people);
        return allowed();
    }

    public int step() {
        if (!journey.begun) {
            return refused(NOTHING);
        }
        if (journey.told != Journey.GOING) {
            return refused(NOT_SO);
        }
        return granted(journey.advance(island));
    }

    public boolean call(int people) {
        if (!journey.begun) {
            return denied(NOTHING);
        }
        if (!isCrowd(people)) {
            return denied(BAD_NUMBER);
        }
        if (journey.told != Journey.GOING && journey.told != Journey.SHORT) {
            return denied(NOT_SO);
        }
        journey.people = people;
        journey.told = Journey.GOING;
        return allowed();
    }

    public int at(int what) {
        if (what < 0 || what > 8) {
            return refused(NO_SUCH);
        }
        if (!journey.begun) {
            return refused(NOTHING);
        }
        return granted(journey.report(what));
    }

    public int tries(int n) {
        if (!journey.begun) {
            return refused(NOTHING);
        }
        if (n < 1 || n > 100) {
            return refused(BAD_NUMBER);
        }
        int arrived = 0;
        scout.seed = journey.seed;
        for (int i = 0; i < n; i++) {
            scout.begin(journey.statue, journey.way, journey.road, journey.people);
            if (scout.arrives(island)) {
                arrived++;
            }
        }
        journey.seed = scout.seed;
        return granted(arrived);
    }

    public long image() {
        if (!journey.begun) {
            return refused(NOTHING);
        }
        trouble = 0;
        return journey.toImage();
    }

    public boolean restore(long image) {
        if (island.isBare()) {
            return denied(NO_SUCH);
        }
        if (!scout.fromImage(image, island)) {
            return denied(BAD_NUMBER);
        }
        Journey former = journey;
        journey = scout;
        scout = former;
        return allowed();
    }

    // ---- which way.

    public long odds(int way) {
        if (island.isBare() || way != NONE && !island.has(WAYS, way)) {
            return refused(NO_SUCH);
        }
        trouble = 0;
        return way == NONE ? island.oddsOfAll() : island.oddsOf(way, NONE);
    }

    public int likeliest() {
        if (island.isBare()) {
            return refused(NO_SUCH);
        }
        return granted(island.likeliestWay(NONE));
    }

    public int lies(int way, int statue) {
        Way by = island.wayAt(way);
        Stone stone = island.statueAt(statue);
        if (by == null || stone == null || !stone.isLying()) {
            return refused(NO_SUCH);
        }
        return granted(by.tenths(stone.slope, stone.lie));
    }

    public int hollow(int way, int road) {
        Way by = island.wayAt(way);
        Road along = island.roadAt(road);
        if (by == null || along == null) {
            return refused(NO_SUCH);
        }
        return granted(by.hollowed(along.hollow));
    }

    public int shape(int way) {
        Way by = island.wayAt(way);
        if (by == null) {
            return refused(NO_SUCH);
        }
        return granted(by.shaped(island.leanChange(NONE)));
    }

    public int changed() {
        if (island.isBare()) {
            return unknown(NO_SUCH);
        }
        int change = island.leanChange(NONE);
        return change == UNKNOWN ? unknown(NOTHING) : granted(change);
    }

    public int told(int way, int teller) {
        Teller voice = island.tellerAt(teller);
        if (!island.has(WAYS, way) || voice == null) {
            return refused(NO_SUCH);
        }
        return granted(voice.favour(way));
    }

    public boolean turn(int statue, int lie) {
        Stone stone = island.statueAt(statue);
        if (stone == null || !isLie(lie)) {
            return denied(NO_SUCH);
        }
        if (!stone.isLying()) {
            return denied(NOT_SO);
        }
        stone.lie = lie;
        return allowed();
    }

    public int hangs() {
        if (island.isBare()) {
            return refused(NO_SUCH);
        }
        return granted(island.decidingStatue());
    }

    public int tryout() {
        if (island.isBare()) {
            return refused(NO_SUCH);
        }
        int best = island.bestThing();
        return best == NONE ? refused(NOTHING) : granted(best);
    }

    // ---- trials, wood.

    public int people(int way, int tons, boolean most) {
        if (!island.has(WAYS, way)) {
            return refused(NO_SUCH);
        }
        if (tons < 1 || tons > 400) {
            return refused(BAD_NUMBER);
        }
        int people = island.peopleByTrials(way, tons, most);
        return people == NONE ? refused(NOTHING) : granted(people);
    }

    public int takes(int way, int yards, boolean most) {
        if (!island.has(WAYS, way)) {
            return refused(NO_SUCH);
        }
        if (yards < 1 || yards > 9999) {
            return refused(BAD_NUMBER);
        }
        int minutes = island.minutesByTrials(way, yards, most);
        return minutes == NONE ? refused(NOTHING) : granted(minutes);
    }

    public int off(int trial) {
        Trial held = island.trialAt(trial);
        Way by = held == null ? null : island.wayAt(held.way);
        if (held == null || by == null) {
            return unknown(NO_SUCH);
        }
        return granted(by.hands(held.tons, 0) - held.people);
    }

    public int wood(int way) {
        Way by = island.wayAt(way);
        if (by == null) {
            return refused(NO_SUCH);
        }
        return granted(island.woodOf(by));
    }

    public int enough(int way) {
        Way by = island.wayAt(way);
        if (by == null) {
            return refused(NO_SUCH);
        }
        if (!island.has(LAND, 0)) {
            return refused(NOTHING);
        }
        return granted(island.trees * 10 >= island.woodOf(by) ? 1 : 0);
    }

    // ---- trees, people.

    public int trees(int story, int year) {
        Story by = island.storyAt(story);
        if (by == null) {
            return refused(NO_SUCH);
        }
        if (!isYear(year)) {
            return refused(BAD_NUMBER);
        }
        if (!island.has(LAND, 0)) {
            return refused(NOTHING);
        }
        return granted(by.treesIn(year));
    }

    public int see(int year, int trees, int off) {
        if (island.isBare()) {
            return refused(NO_SUCH);
        }
        if (!isYear(year) || trees < 0 || trees > MOST_TREES || off < 0 || off > 999) {
            return refused(BAD_NUMBER);
        }
        if (!sights.add(year, trees, off)) {
            return refused(NO_ROOM);
        }
        return granted(sights.held);
    }

    public int forget() {
        int seen = sights.held;
        sights.clear();
        return seen;
    }

    public int fits() {
        int why = landTrouble();
        return why != 0 ? refused(why) : granted(sights.agreeing(island));
    }

    public int weight() {
        int why = landTrouble();
        return why != 0 ? refused(why) : granted(island.weightOf(sights.agreeing(island)));
    }

    public int gone(int story) {
        Story by = island.storyAt(story);
        if (by == null) {
            return refused(NO_SUCH);
        }
        if (!island.has(LAND, 0)) {
            return refused(NOTHING);
        }
        return granted(by.yearGone());
    }

    public int dig() {
        int why = landTrouble();
        if (why != 0) {
            return refused(why);
        }
        int fitting = sights.agreeing(island);
        return fitting == 0 ? refused(NOTHING) : granted(island.yearOfDispute(fitting));
    }

    public int lived(boolean most) {
        if (island.isBare()) {
            return refused(NO_SUCH);
        }
        if (!island.has(FIELDS, 0) || !island.has(HOUSES, 0)) {
            return refused(NOTHING);
        }
        return granted(island.inhabitants(most));
    }

    public int led(int way, int i) throws NoSuchElementException {
        Way by = island.wayAt(way);
        int statue = by == null ? NONE : island.clearlyLaid(by, i);
        if (statue == NONE) {
            throw new NoSuchElementException();
        }
        return statue;
    }

    public int size(int what) {
        switch (what) {
            case WAYS:
            case ROADS:
            case STATUES:
            case TRIALS:
            case STORIES:
            case TELLERS:
            case THINGS:
                return island.count(what);
            case 7:
                return sights.held;
            case 8:
                return journey.seed;
            case 9:
                return tape.held;
            case 10:
                return island.lying;
            default:
                return NONE;
        }
    }

    public int statue(int t, int what) {
        Stone stone = island.statueAt(t);
        return stone == null ? NONE : stone.report(what);
    }

    public int trouble() {
        return trouble;
    }

    private int granted(int answer) {
        trouble = 0;
        return answer;
    }

    private int refused(int why) {
        trouble = why;
        return NONE;
    }

    private int unknown(int why) {
        trouble = why;
        return UNKNOWN;
    }

    private boolean allowed() {
        trouble = 0;
        return true;
    }

    private boolean denied(int why) {
        trouble = why;
        return false;
    }

    private int landTrouble() {
        if (island.isBare()) {
            return NO_SUCH;
        }
        return island.has(LAND, 0) ? 0 : NOTHING;
    }

    private static boolean isSlope(int s) {
        return s >= -STEEPEST && s <= STEEPEST;
    }

    private static boolean isCrowd(int people) {
        return people >= 1 && people <= MOST_PEOPLE;
    }

    private static boolean isLie(int lie) {
        return lie >= 0 && lie <= 2;
    }

    private static boolean isYear(int year) {
        return year >= 0 && year < YEARS;
    }

    private static int entry(int[] row, int i) {
        return i >= 0 && i < row.length ? row[i] : 0;
    }

    private static int upwards(int dividend, int divisor) {
        return divisor > 0 ? (dividend + divisor - 1) / divisor : 0;
    }

    /** A way of moving stone; its rows go by kind: walked, sled, rolled, dragged. */
    private static final class Way {
        static final int WALKED = 0;
        static final int SLED = 1;
        static final int ROLLED = 2;

        private static final int[] TOIL = {1, 2, 1, 3};
        private static final int[] BASE = {40, 60, 30, 90};
        private static final int[] WOOD_PER_TON = {0, 2, 4, 1};
        private static final int[] SWAY = {2, 1, 3, 0};
        private static final int[] HOLLOWED = {8, 1, 3, 6};
        // Of each kind downhill, on a level, uphill: tenths of face, back, side.
        private static final int[] TENTHS = {
            8, 1, 1, 4, 4, 2, 2, 7, 1,
            2, 2, 6, 2, 2, 6, 2, 2, 6,
            3, 2, 5, 2, 3, 5, 2, 3, 5,
            6, 3, 1, 5, 4, 1, 5, 4, 1,
        };

        int kind;
        int weighs;
        int pull;

        boolean carries(Stone stone, int slope) {
            if (kind == WALKED) {
                return stone.lean >= 5 && stone.lean <= 25 && stone.edge >= 3
                    && slope <= stone.lean / 2 && slope >= -(stone.lean / 4);
            }
            if (kind == SLED) {
                return slope >= -6 && slope <= 8;
            }
            if (kind == ROLLED) {
                return stone.tons <= 30 && slope >= -3 && slope <= 5;
            }
            return stone.tons <= 20 && slope <= 12;
        }

        /** The SLOPES of a road on which it CAN, as bits. */
        int passable(Stone stone, Road road) {
            int bits = 0;
            for (int i = 0; i < road.held; i++) {
                if (carries(stone, road.slopeAt(i))) {
                    bits |= 1 << i;
                }
            }
            return bits;
        }

        int limit(Stone stone, boolean down) {
            int direction = down ? 1 : -1;
            for (int i = 0; i <= 2 * STEEPEST; i++) {
                int slope = direction * (i - STEEPEST);
                if (carries(stone, slope)) {
                    return slope;
                }
            }
            return NO_SLOPE;
        }

        int hands(int tons, int slope) {
            int burden = 100 + 5 * Math.max(slope, 0);
            return upwards(tons * 10 * entry(TOIL, kind) * burden, 100 * pull);
        }

        /** The people that the worst SLOPE of a road needs. */
        int handsAlong(int tons, Road road) {
            int most = 0;
            for (int i = 0; i < road.held; i++) {
                most = Math.max(most, hands(tons, road.slopeAt(i)));
            }
            return most;
        }

        int duration(int tons, int slope, int people) {
            int base = entry(BASE, kind);
            return Math.max(upwards(base * hands(tons, slope), people), base / 2);
        }

        int risk(int edge, int slope) {
            int risk = entry(SWAY, kind) * Math.abs(slope);
            if (kind == WALKED) {
                risk += Math.max(10 - edge, 0);
            }
            return Math.min(risk, 100);
        }

        int tenths(int slope, int lie) {
            int grade = Integer.compare(slope, 0) + 1;
            return entry(TENTHS, (kind * 3 + grade) * 3 + lie);
        }

        int woodFor(int tons) {
            return entry(WOOD_PER_TON, kind) * tons;
        }

        int hollowed(int hollow) {
            int deep = entry(HOLLOWED, kind);
            return hollow >= 3 ? deep : 10 - deep;
        }

        int shaped(int leanChange) {
            if (leanChange == UNKNOWN) {
                return 1;
            }
            if (leanChange >= 5) {
                return kind == WALKED ? 9 : 3;
            }
            return kind == WALKED ? 2 : 6;
        }
    }

    private static final class Road {
        int hollow;
        int held;
        private final int[] slopes = new int[MOST_SLOPES];

        void add(int slope) {
            if (held < slopes.length) {
                slopes[held] = slope;
                held++;
            }
        }

        int slopeAt(int i) {
            return entry(slopes, i);
        }
    }

    /** A statue, or a thing that may be tried. */
    private static final class Stone {
        static final int STOOD = 3;
        static final int LIES = 5;

        int tons;
        int lean;
        int edge;
        int sort;
        int lie;
        int road;
        int place;
        // Where a statue lies, or on which a thing may be tried.
        int slope;

        boolean isLying() {
            return sort == LIES;
        }

        int report(int what) {
            switch (what) {
                case 0: return tons;
                case 1: return lean;
                case 2: return edge;
                case 3: return sort;
                case 4: return lie;
                case 5: return road;
                case 6: return place;
                default: return NONE;
            }
        }
    }

    private static final class Trial {
        int way;
        int tons;
        int people;
        int yards;
        int minutes;
    }

    /** Why the trees went, and how many it leaves, year by year. */
    private static final class Story {
        static final int FELLED = 0;
        static final int RATS = 1;
        static final int FIRES = 2;

        int weighs;
        int cause;
        int share;
        int every;
        private final int[] counts = new int[YEARS];

        void grow(int trees, int grows, int people) {
            counts[0] = trees;
            for (int year = 1; year < counts.length; year++) {
                int left = counts[year - 1];
                int next = left + gain(left, grows) - left * 2 / 100 - loss(left, people, year);
                counts[year] = Math.max(0, Math.min(next, MOST_TREES));
            }
        }

        private int gain(int trees, int grows) {
            int gain = trees * grows / 100;
            return cause == RATS ? gain * (100 - share) / 100 : gain;
        }

        private int loss(int trees, int people, int year) {
            if (cause == FELLED) {
                return share * people / 100;
            }
            if (cause == FIRES && every > 0 && year % every == 0) {
                return trees * share / 100;
            }
            return 0;
        }

        int treesIn(int year) {
            return entry(counts, year);
        }

        int yearGone() {
            for (int year = 0; year < counts.length; year++) {
                if (counts[year] < FEWEST_TREES) {
                    return year;
                }
            }
            return ABSENT;
        }
    }

    private static final class Teller {
        boolean stranger;
        // The WAYS that it means, as bits.
        int ways;

        boolean means(int way) {
            return way >= 0 && (ways >> way & 1) == 1;
        }

        void add(int way) {
            if (way >= 0) {
                ways |= 1 << way;
            }
        }

        int favour(int way) {
            if (stranger) {
                return 5;
            }
            return means(way) ? 6 : 4;
        }
    }

    /** What a text tells, and what follows from it; without a text it is bare. */
    private static final class Island {
        final Way[] ways = new Way[MOST_WAYS];
        final Road[] roads = new Road[MOST_ROADS];
        final Stone[] statues = new Stone[MOST_STATUES];
        final Trial[] trials = new Trial[MOST_TRIALS];
        final Story[] stories = new Story[MOST_STORIES];
        final Teller[] tellers = new Teller[MOST_TELLERS];
        final Stone[] things = new Stone[MOST_THINGS];
        private final int[] counts = new int[MOST_SORTS];
        int lying;
        int trees;
        int grows;
        int people;
        int fields;
        int feeds;
        int houses;
        int holdsLeast;
        int holdsMost;

        Island() {
            for (int i = 0; i < ways.length; i++) {
                ways[i] = new Way();
            }
            for (int i = 0; i < roads.length; i++) {
                roads[i] = new Road();
            }
            for (int i = 0; i < statues.length; i++) {
                statues[i] = new Stone();
            }
            for (int i = 0; i < trials.length; i++) {
                trials[i] = new Trial();
            }
            for (int i = 0; i < stories.length; i++) {
                stories[i] = new Story();
            }
            for (int i = 0; i < tellers.length; i++) {
                tellers[i] = new Teller();
            }
            for (int i = 0; i < things.length; i++) {
                things[i] = new Stone();
            }
        }

        void clear() {
            for (int sort = 0; sort < counts.length; sort++) {
                counts[sort] = 0;
            }
            lying = 0;
        }

        /** Makes room for one more of a sort: its number, NONE if there is no room. */
        int add(int sort) {
            int number = count(sort);
            if (sort < 0 || sort >= counts.length || number >= entry(ROOM, sort)) {
                return NONE;
            }
            counts[sort] = number + 1;
            return number;
        }

        int count(int sort) {
            return entry(counts, sort);
        }

        boolean has(int sort, int i) {
            return i >= 0 && i < count(sort);
        }

        boolean isBare() {
            return count(STATUES) == 0;
        }

        boolean lacksAny() {
            return count(WAYS) == 0 || count(ROADS) == 0 || count(STATUES) == 0;
        }

        Way wayAt(int i) {
            return i >= 0 && i < counts[WAYS] && i < ways.length ? ways[i] : null;
        }

        Road roadAt(int i) {
            return i >= 0 && i < counts[ROADS] && i < roads.length ? roads[i] : null;
        }

        Stone statueAt(int i) {
            return i >= 0 && i < counts[STATUES] && i < statues.length ? statues[i] : null;
        }

        Trial trialAt(int i) {
            return i >= 0 && i < counts[TRIALS] && i < trials.length ? trials[i] : null;
        }

        Story storyAt(int i) {
            return i >= 0 && i < counts[STORIES] && i < stories.length ? stories[i] : null;
        }

        Teller tellerAt(int i) {
            return i >= 0 && i < counts[TELLERS] && i < tellers.length ? tellers[i] : null;
        }

        Stone thingAt(int i) {
            return i >= 0 && i < counts[THINGS] && i < things.length ? things[i] : null;
        }

        int easiestWay(Stone stone, Road road) {
            int all = (1 << road.held) - 1;
            int best = ABSENT;
            int fewest = 0;
            for (int i = 0; i < count(WAYS); i++) {
                Way way = wayAt(i);
                if (way != null && way.passable(stone, road) == all) {
                    int hands = way.handsAlong(stone.tons, road);
                    if (best == ABSENT || hands < fewest) {
                        best = i;
                        fewest = hands;
                    }
                }
            }
            return best;
        }

        /** ODDS of a WAY as if one statue were not there (NONE: all are). */
        long oddsOf(int way, int without) {
            Way by = wayAt(way);
            if (by == null) {
                return 0;
            }
            long odds = by.weighs;
            for (int i = 0; i < count(STATUES); i++) {
                Stone stone = statueAt(i);
                if (stone != null && stone.isLying() && i != without) {
                    odds *= by.tenths(stone.slope, stone.lie);
                }
            }
            for (int i = 0; i < count(ROADS); i++) {
                Road road = roadAt(i);
                if (road != null) {
                    odds *= by.hollowed(road.hollow);
                }
            }
            for (int i = 0; i < count(TELLERS); i++) {
                Teller teller = tellerAt(i);
                if (teller != null) {
                    odds *= teller.favour(way);
                }
            }
            return odds * by.shaped(leanChange(without));
        }

        long oddsOfAll() {
            long all = 0;
            for (int i = 0; i < count(WAYS); i++) {
                all += oddsOf(i, NONE);
            }
            return all;
        }

        int likeliestWay(int without) {
            int best = NONE;
            long most = 0;
            for (int i = 0; i < count(WAYS); i++) {
                long odds = oddsOf(i, without);
                if (best == NONE || odds > most) {
                    best = i;
                    most = odds;
                }
            }
            return best;
        }

        /** By how much those that lie lean more than those that stood, UNKNOWN without both. */
        int leanChange(int without) {
            int lay = meanLean(Stone.LIES, without);
            int stood = meanLean(Stone.STOOD, without);
            return lay == NONE || stood == NONE ? UNKNOWN : lay - stood;
        }

        private int meanLean(int sort, int without) {
            int sum = 0;
            int many = 0;
            for (int i = 0; i < count(STATUES); i++) {
                Stone stone = statueAt(i);
                if (stone != null && stone.sort == sort && i != without) {
                    sum += stone.lean;
                    many++;
                }
            }
            return many > 0 ? sum / many : NONE;
        }

        int decidingStatue() {
            int likeliest = likeliestWay(NONE);
            for (int i = 0; i < count(STATUES); i++) {
                Stone stone = statueAt(i);
                if (stone != null && stone.isLying() && likeliestWay(i) != likeliest) {
                    return i;
                }
            }
            return ABSENT;
        }

        int bestThing() {
            int best = NONE;
            long least = 0;
            long all = oddsOfAll();
            for (int i = 0; i < count(THINGS); i++) {
                long able = oddsThatCarry(thingAt(i));
                long greater = Math.max(able, all - able);
                if (best == NONE || greater < least) {
                    best = i;
                    least = greater;
                }
            }
            return best;
        }

        private long oddsThatCarry(Stone thing) {
            long able = 0;
            for (int i = 0; i < count(WAYS); i++) {
                Way way = wayAt(i);
                if (way != null && thing != null && way.carries(thing, thing.slope)) {
                    able += oddsOf(i, NONE);
                }
            }
            return able;
        }

        int peopleByTrials(int way, int tons, boolean most) {
            int people = NONE;
            int heaviest = 0;
            for (int i = 0; i < count(TRIALS); i++) {
                Trial trial = trialAt(i);
                if (trial != null && trial.way == way) {
                    people = further(people, upwards(tons * trial.people, trial.tons), most);
                    heaviest = Math.max(heaviest, trial.tons);
                }
            }
            return tons > 4 * heaviest ? NONE : people;
        }

        int minutesByTrials(int way, int yards, boolean most) {
            int minutes = NONE;
            for (int i = 0; i < count(TRIALS); i++) {
                Trial trial = trialAt(i);
                if (trial != null && trial.way == way) {
                    minutes = further(minutes, upwards(yards * trial.minutes, trial.yards), most);
                }
            }
            return minutes;
        }

        private static int further(int found, int other, boolean most) {
            if (found == NONE) {
                return other;
            }
            return most ? Math.max(found, other) : Math.min(found, other);
        }

        int woodOf(Way way) {
            Road first = roadAt(0);
            int all = first == null ? 0 : first.held;
            int wood = 0;
            for (int i = 0; i < count(STATUES); i++) {
                Stone stone = statueAt(i);
                if (stone != null && stone.isLying()) {
                    wood += way.woodFor(stone.tons) * stone.place;
                } else if (stone != null && stone.sort == Stone.STOOD) {
                    wood += way.woodFor(stone.tons) * all;
                }
            }
            return wood;
        }

        void growTrees() {
            for (int i = 0; i < count(STORIES); i++) {
                Story story = storyAt(i);
                if (story != null && has(LAND, 0)) {
                    story.grow(trees, grows, people);
                }
            }
        }

        int weightOf(int fitting) {
            int weight = 0;
            for (int i = 0; i < count(STORIES); i++) {
                Story story = storyAt(i);
                if (story != null && (fitting >> i & 1) == 1) {
                    weight += story.weighs;
                }
            }
            return weight;
        }

        int yearOfDispute(int fitting) {
            int disputed = 0;
            int widest = 0;
            for (int year = 0; year < YEARS; year++) {
                int spread = spread(fitting, year);
                if (spread > widest) {
                    disputed = year;
                    widest = spread;
                }
            }
            return disputed;
        }

        private int spread(int fitting, int year) {
            int least = MOST_TREES;
            int greatest = 0;
            for (int i = 0; i < count(STORIES); i++) {
                Story story = storyAt(i);
                if (story != null && (fitting >> i & 1) == 1) {
                    least = Math.min(least, story.treesIn(year));
                    greatest = Math.max(greatest, story.treesIn(year));
                }
            }
            return greatest - least;
        }

        int inhabitants(boolean most) {
            return Math.min(fields * feeds, houses * (most ? holdsMost : holdsLeast));
        }

        int clearlyLaid(Way way, int rank) {
            int passed = 0;
            for (int i = 0; i < count(STATUES); i++) {
                Stone stone = statueAt(i);
                if (stone != null && stone.isLying()
                    && way.tenths(stone.slope, stone.lie) >= CLEAR_TENTHS) {
                    if (passed == rank) {
                        return i;
                    }
                    passed++;
                }
            }
            return NONE;
        }
    }

    /** THE TAPE, and the TOKEN of it that is looked at. */
    private static final class Tape {
        static final int NO_TOKEN = 0;
        static final int WORD = 1;
        static final int WHOLE = 2;
        static final int SIGN = 3;
        static final int END = 4;

        private static final int LONGEST_WORD = 8;
        private static final int LONGEST_WHOLE = 3;

        private final byte[] bytes = new byte[MOST_BYTES];
        int held;
        private int end;
        private int next;
        int type;
        int start;
        // A WORD as one number (five bits a letter), a WHOLE's value, a SIGN's byte.
        long value;

        boolean hasRoomFor(int more) {
            return held + more <= bytes.length;
        }

        void put(int number) {
            for (int shift = 24; shift >= 0; shift -= 8) {
                if (held < bytes.length) {
                    bytes[held] = (byte) (number >> shift);
                    held++;
                }
            }
        }

        void empty() {
            held = 0;
        }

        void begin(int n) {
            end = Math.min(n, bytes.length);
            next = 0;
            advance();
        }

        void advance() {
            while (next < end && bytes[next] == ' ') {
                next++;
            }
            start = next;
            value = 0;
            type = start < end ? typeOf(bytes[start]) : END;
            if (type == WORD || type == WHOLE) {
                int base = type == WORD ? 32 : 10;
                int zero = type == WORD ? 'a' - 1 : '0';
                int longest = type == WORD ? LONGEST_WORD : LONGEST_WHOLE;
                while (next < end && typeOf(bytes[next]) == type) {
                    value = value * base + bytes[next] - zero;
                    next++;
                }
                // What stands together is one TOKEN or none, never two.
                type = next - start > longest ? NO_TOKEN : type;
            } else if (type != END) {
                value = bytes[start];
                next++;
            }
        }

        private static int typeOf(int b) {
            if (b >= 'a' && b <= 'z') {
                return WORD;
            }
            if (b >= '0' && b <= '9') {
                return WHOLE;
            }
            return b == ';' || b == ',' ? SIGN : NO_TOKEN;
        }

        boolean isSign(char sign) {
            return type == SIGN && value == sign;
        }

        boolean isWord() {
            return type == WORD;
        }

        /** Which of some words, parted by a blank each, the TOKEN is; NONE if none of them. */
        int among(String words) {
            if (type != WORD) {
                return NONE;
            }
            int passed = 0;
            long word = 0;
            for (int i = 0; i < words.length(); i++) {
                char letter = words.charAt(i);
                if (letter != ' ') {
                    word = word * 32 + letter - ('a' - 1);
                } else if (word == value) {
                    return passed;
                } else {
                    passed++;
                    word = 0;
                }
            }
            return word == value ? passed : NONE;
        }
    }

    /**
     * Reads a text into an island. Behind the first fault it reads on without harm, since only
     * the first one is kept.
     */
    private static final class Reader {
        private static final int FORM = 1;
        private static final int UNTOLD = 2;
        private static final int AGAIN = 3;
        private static final int BOUNDS = 4;
        private static final int MANY = 5;
        private static final int LACKS = 6;

        // In the order of the sorts of LINES.
        private static final String LINES =
            "way road statue trial story teller try land fields houses";
        private static final String NO_NAMES =
            "way road statue trial land fields houses story teller try up down stranger";
        private static final String KINDS = "walked sled rolled dragged";
        private static final String SLOPES = "up down";
        private static final String SORTS = "cut large buried stood tried lies";
        private static final String LIES = "face back side";
        private static final String CAUSES = "felled rats fires";

        private final Tape tape;
        private final long[] names = new long[MOST_NAMES];
        private final int[] nameSorts = new int[MOST_NAMES];
        private final int[] nameNumbers = new int[MOST_NAMES];
        private int told;
        int fault;
        int place;

        Reader(Tape tape) {
            this.tape = tape;
        }

        boolean readIsland(int n, Island island) {
            fault = 0;
            place = NONE;
            told = 0;
            island.clear();
            tape.begin(n);
            boolean more = true;
            for (int i = 0; i <= n && more; i++) {
                readLine(island);
                more = fault == 0 && passes(';');
            }
            if (tape.type != Tape.END) {
                fail(FORM);
            } else if (island.lacksAny()) {
                fail(LACKS);
            }
            return fault == 0;
        }

        private void readLine(Island island) {
            int sort = tape.among(LINES);
            if (sort == NONE) {
                fail(FORM);
                return;
            }
            int number = island.add(sort);
            if (number == NONE) {
                fail(sort >= LAND ? AGAIN : MANY);
                return;
            }
            tape.advance();
            if (sort < LAND) {
                tellName(sort, number);
            }
            switch (sort) {
                case WAYS:
                    readWay(island.wayAt(number));
                    break;
                case ROADS:
                    readRoad(island.roadAt(number));
                    break;
                case STATUES:
                    readMeasures(island.statueAt(number));
                    readSort(island, island.statueAt(number));
                    break;
                case TRIALS:
                    readTrial(island.trialAt(number));
                    break;
                case STORIES:
                    readStory(island.storyAt(number));
                    break;
                case TELLERS:
                    readTeller(island.tellerAt(number));
                    break;
                case THINGS:
                    readMeasures(island.thingAt(number));
                    readGround(island.thingAt(number));
                    break;
                case LAND:
                    readLand(island);
                    break;
                case FIELDS:
                    readFields(island);
                    break;
                default:
                    readHouses(island);
                    break;
            }
        }

        private void readWay(Way way) {
            if (way == null) {
                return;
            }
            way.kind = choice(KINDS);
            way.weighs = measure("weighs", 1, 99);
            way.pull = measure("pull", 1, 20);
        }

        private void readRoad(Road road) {
            if (road == null) {
                return;
            }
            road.held = 0;
            road.hollow = measure("hollow", 0, 9);
            choice("slopes");
            boolean more = true;
            for (int i = 0; i <= MOST_SLOPES && more; i++) {
                if (i == MOST_SLOPES && tape.among(SLOPES) != NONE) {
                    fail(MANY);
                }
                road.add(readSlope());
                more = passes(',');
            }
        }

        private int readSlope() {
            int direction = choice(SLOPES);
            int steep = whole(0, STEEPEST);
            return direction == 0 ? steep : -steep;
        }

        private void readMeasures(Stone stone) {
            if (stone == null) {
                return;
            }
            stone.tons = measure("tons", 1, 99);
            stone.lean = measure("lean", 0, 30);
            stone.edge = measure("edge", 0, 20);
        }

        private void readSort(Island island, Stone stone) {
            if (stone == null) {
                return;
            }
            stone.lie = ABSENT;
            stone.road = ABSENT;
            stone.place = ABSENT;
            if (island.lying == MOST_LYING && tape.among("lies") != NONE) {
                fail(MANY);
            }
            stone.sort = choice(SORTS);
            if (stone.isLying()) {
                island.lying++;
                readLying(island, stone);
            }
        }

        private void readLying(Island island, Stone stone) {
            stone.lie = choice(LIES);
            choice("on");
            stone.road = toldName(ROADS);
            tape.advance();
            choice("at");
            Road road = island.roadAt(stone.road);
            if (road != null) {
                stone.place = whole(0, road.held - 1);
                stone.slope = road.slopeAt(stone.place);
            }
        }

        private void readGround(Stone thing) {
            if (thing == null) {
                return;
            }
            thing.slope = readSlope();
        }

        private void readTrial(Trial trial) {
            if (trial == null) {
                return;
            }
            choice("of");
            trial.way = toldName(WAYS);
            tape.advance();
            trial.tons = measure("tons", 1, 99);
            trial.people = measure("people", 1, MOST_PEOPLE);
            trial.yards = measure("yards", 1, 999);
            trial.minutes = measure("minutes", 1, 999);
        }

        private void readStory(Story story) {
            if (story == null) {
                return;
            }
            story.weighs = measure("weighs", 1, 99);
            story.cause = choice(CAUSES);
            story.share = whole(0, story.cause == Story.FELLED ? 99 : 100);
            if (story.cause == Story.FIRES) {
                story.every = measure("every", 1, 50);
            }
        }

        private void readTeller(Teller teller) {
            if (teller == null) {
                return;
            }
            // No promise asks for the year, so it is looked at and not kept.
            measure("year", 0, 999);
            choice("means");
            teller.ways = 0;
            boolean more = true;
            for (int i = 0; i <= MOST_WAYS && more; i++) {
                readMeant(teller);
                more = passes(',');
            }
            teller.stranger = tape.among("stranger") != NONE;
            if (teller.stranger) {
                tape.advance();
            }
        }

        private void readMeant(Teller teller) {
            int way = toldName(WAYS);
            if (teller.means(way)) {
                fail(AGAIN);
            }
            teller.add(way);
            tape.advance();
        }

        private void readLand(Island island) {
            island.trees = measure("trees", 0, 999);
            island.grows = measure("grows", 0, 50);
            island.people = measure("people", 0, 999);
        }

        private void readFields(Island island) {
            island.fields = whole(0, 999);
            island.feeds = measure("feeds", 0, 99);
        }

        private void readHouses(Island island) {
            island.houses = whole(0, 999);
            island.holdsLeast = measure("holds", 0, 20);
            island.holdsMost = measure("to", island.holdsLeast, 40);
        }

        private void fail(int number) {
            if (fault == 0) {
                fault = number;
                place = tape.start;
            }
        }

        private boolean passes(char sign) {
            boolean passed = tape.isSign(sign);
            if (passed) {
                tape.advance();
            }
            return passed;
        }

        /** Which of some words stands here, where one of them must. */
        private int choice(String words) {
            int chosen = tape.among(words);
            if (chosen == NONE) {
                fail(FORM);
            }
            tape.advance();
            return chosen;
        }

        private int measure(String word, int low, int high) {
            if (tape.among(word) == NONE) {
                fail(FORM);
            }
            tape.advance();
            return whole(low, high);
        }

        private int whole(int low, int high) {
            if (tape.type != Tape.WHOLE) {
                fail(FORM);
                return NONE;
            }
            int value = (int) tape.value;
            if (value < low || value > high) {
                fail(BOUNDS);
            }
            tape.advance();
            return value;
        }

        private void tellName(int sort, int number) {
            if (!tape.isWord() || tape.among(NO_NAMES) != NONE) {
                fail(FORM);
            } else if (findName() != NONE) {
                fail(AGAIN);
            } else if (told < names.length) {
                names[told] = tape.value;
                nameSorts[told] = sort;
                nameNumbers[told] = number;
                told++;
            }
            tape.advance();
        }

        /** The number of what the NAME here tells; it stays here, for faults of the caller's. */
        private int toldName(int sort) {
            if (!tape.isWord() || tape.among(NO_NAMES) != NONE) {
                fail(FORM);
                return NONE;
            }
            int found = findName();
            if (found == NONE || entry(nameSorts, found) != sort) {
                fail(UNTOLD);
                return NONE;
            }
            return entry(nameNumbers, found);
        }

        private int findName() {
            for (int i = 0; i < told && i < names.length; i++) {
                if (names[i] == tape.value) {
                    return i;
                }
            }
            return NONE;
        }
    }

    /** A MOVE, and the SEED that its draws go on from. */
    private static final class Journey {
        static final int GOING = 1;
        static final int THERE = 2;
        static final int FELL = 3;
        static final int STUCK = 4;
        static final int SHORT = 5;

        private static final int STANDS = 3;

        int seed;
        boolean begun;
        int told;
        int people;
        int statue;
        int way;
        int road;
        private int place;
        private int minutes;
        private int wood;
        private int lie;

        void clear() {
            begun = false;
            seed = 0;
        }

        void begin(int newStatue, int newWay, int newRoad, int newPeople) {
            begun = true;
            told = GOING;
            statue = newStatue;
            way = newWay;
            road = newRoad;
            people = newPeople;
            place = 0;
            minutes = 0;
            wood = 0;
            lie = ABSENT;
        }

        int advance(Island island) {
            Stone stone = island.statueAt(statue);
            Way by = island.wayAt(way);
            Road along = island.roadAt(road);
            if (stone == null || by == null || along == null) {
                return told;
            }
            int slope = along.slopeAt(place);
            if (!by.carries(stone, slope)) {
                told = STUCK;
            } else if (people < by.hands(stone.tons, slope)) {
                told = SHORT;
            } else {
                minutes += by.duration(stone.tons, slope, people);
                wood += by.woodFor(stone.tons);
                if (falls(by.risk(stone.edge, slope))) {
                    told = FELL;
                    lie = laid(by, slope);
                } else {
                    place++;
                    told = place < along.held ? GOING : THERE;
                }
            }
            return told;
        }

        boolean arrives(Island island) {
            for (int i = 0; i < MOST_SLOPES && told == GOING; i++) {
                advance(island);
            }
            return told == THERE;
        }

        private boolean falls(int risk) {
            return risk > 0 && draw() % 100 < risk;
        }

        private int laid(Way by, int slope) {
            int tenth = draw() % 10;
            int face = by.tenths(slope, 0);
            if (tenth < face) {
                return 0;
            }
            return tenth < face + by.tenths(slope, 1) ? 1 : 2;
        }

        private int draw() {
            seed = (75 * seed + 74) % 65537;
            return seed;
        }

        int report(int what) {
            switch (what) {
                case 0: return told;
                case 1: return place;
                case 2: return minutes;
                case 3: return wood;
                case 4: return lie;
                case 5: return statue;
                case 6: return way;
                case 7: return road;
                default: return people;
            }
        }

        long toImage() {
            long image = seed;
            image = image * 6 + told;
            image = image * 7 + place;
            image = image * 541 + minutes;
            image = image * 4 + (told == FELL ? lie : STANDS);
            image = image * 10 + statue;
            image = image * 4 + way;
            image = image * 3 + road;
            return image * 201 + people;
        }

        /** Becomes what an image tells; whether that is one of the island. */
        boolean fromImage(long image, Island island) {
            long rest = image;
            people = (int) (rest % 201);
            rest /= 201;
            road = (int) (rest % 3);
            rest /= 3;
            way = (int) (rest % 4);
            rest /= 4;
            statue = (int) (rest % 10);
            rest /= 10;
            lie = (int) (rest % 4);
            rest /= 4;
            minutes = (int) (rest % 541);
            rest /= 541;
            place = (int) (rest % 7);
            rest /= 7;
            told = (int) (rest % 6);
            rest /= 6;
            if (image < 0 || rest > LAST_SEED || !isOf(island)) {
                return false;
            }
            begun = true;
            seed = (int) rest;
            if (told != FELL) {
                lie = ABSENT;
            }
            wood = woodSoFar(island);
            return true;
        }

        private boolean isOf(Island island) {
            Road along = island.roadAt(road);
            if (along == null || !island.has(STATUES, statue) || !island.has(WAYS, way)) {
                return false;
            }
            boolean placed = told == THERE ? place == along.held : place < along.held;
            boolean laid = (told == FELL) == (lie != STANDS);
            return isCrowd(people) && told >= GOING && placed && laid;
        }

        private int woodSoFar(Island island) {
            Stone stone = island.statueAt(statue);
            Way by = island.wayAt(way);
            if (stone == null || by == null) {
                return 0;
            }
            return by.woodFor(stone.tons) * (told == FELL ? place + 1 : place);
        }
    }

    /** What was SEEN of the trees. */
    private static final class Sights {
        private final int[] years = new int[MOST_SIGHTS];
        private final int[] counts = new int[MOST_SIGHTS];
        private final int[] offs = new int[MOST_SIGHTS];
        int held;

        void clear() {
            held = 0;
        }

        boolean add(int year, int trees, int off) {
            if (held >= years.length) {
                return false;
            }
            years[held] = year;
            counts[held] = trees;
            offs[held] = off;
            held++;
            return true;
        }

        /** The STORIES that agree with all, as bits. */
        int agreeing(Island island) {
            int bits = 0;
            for (int i = 0; i < island.count(STORIES); i++) {
                Story story = island.storyAt(i);
                if (story != null && agrees(story)) {
                    bits |= 1 << i;
                }
            }
            return bits;
        }

        private boolean agrees(Story story) {
            for (int i = 0; i < held; i++) {
                if (Math.abs(story.treesIn(entry(years, i)) - entry(counts, i)) > entry(offs, i)) {
                    return false;
                }
            }
            return true;
        }
    }
}
