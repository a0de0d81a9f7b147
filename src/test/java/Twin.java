import java.util.ArrayList;
import java.util.HashMap;
import java.util.List;
import java.util.Map;
import java.util.NoSuchElementException;

/**
 * The document told a second time, in the plainest Java there is and without a look at the class,
 * so that the two can be compared. What is refused or faulty is thrown here.
 */
final class Twin {
    private static final String TAKEN =
        " way road statue trial land fields houses story teller try up down stranger ";
    private static final List<String> KINDS = List.of("walked", "sled", "rolled", "dragged");
    private static final List<String> LIES = List.of("face", "back", "side");
    private static final List<String> SORTS = List.of("cut", "large", "buried", "stood", "tried", "lies");
    private static final List<String> LINES = List.of("way", "road", "statue", "trial", "story", "teller",
        "try", "land", "fields", "houses");
    private static final int[] ROOM = {4, 3, 10, 5, 5, 3, 5, 1, 1, 1};
    /** A word that stands for the end of a text. */
    private static final String END = "";

    private record Way(String kind, int weighs, int pull) { }

    private record Road(int hollow, List<Integer> slopes) { }

    private record Statue(int tons, int lean, int edge, String sort, int lie, int road, int at) { }

    private record Trial(int way, int tons, int people, int yards, int minutes) { }

    private record Story(int weighs, String cause, int k, int every) { }

    private record Teller(List<Integer> means, boolean stranger) { }

    private record Thing(Statue statue, int slope) { }

    private record Sight(int year, int trees, int off) { }

    private record Token(String text, int place) { }

    private static final class Refusal extends RuntimeException {
        private static final long serialVersionUID = 1;
        final int number;

        Refusal(int number) {
            super(null, null, false, false);
            this.number = number;
        }
    }

    private static final class Fault extends RuntimeException {
        private static final long serialVersionUID = 1;
        final int number;
        final int place;

        Fault(int number, int place) {
            super(null, null, false, false);
            this.number = number;
            this.place = place;
        }
    }

    private static final class Isle {
        final List<Way> ways = new ArrayList<>();
        final List<Road> roads = new ArrayList<>();
        final List<Statue> statues = new ArrayList<>();
        final List<Trial> trials = new ArrayList<>();
        final List<Story> stories = new ArrayList<>();
        final List<Teller> tellers = new ArrayList<>();
        final List<Thing> things = new ArrayList<>();
        int[] land;
        int[] fields;
        int[] houses;
    }

    private static final class Move {
        int told = 1;
        int place;
        int minutes;
        int lie = -2;
        int statue;
        int way;
        int road;
        int people;
        int gone;
    }

    private final StringBuilder tape = new StringBuilder();
    private Isle isle;
    private Move move;
    private final List<Sight> sights = new ArrayList<>();
    private int seed;
    private int fault;
    private int place;
    private int trouble;

    // ---- the text.

    private static List<Token> tokens(String text) {
        List<Token> all = new ArrayList<>();
        int at = 0;
        while (at < text.length()) {
            char c = text.charAt(at);
            int to = at + 1;
            if (c == ' ') {
                at++;
                continue;
            }
            boolean letter = small(c);
            if (letter || digit(c)) {
                while (to < text.length() && (letter ? small(text.charAt(to)) : digit(text.charAt(to)))) {
                    to++;
                }
            }
            String token = text.substring(at, to);
            // What is no TOKEN is none that the grammar could ever ask for.
            boolean none = !letter && !digit(c) && c != ';' && c != ',';
            all.add(new Token(none || to - at > (letter ? 8 : 3) ? "?" : token, at));
            at = to;
        }
        all.add(new Token(END, text.length()));
        return all;
    }

    private static boolean small(char c) {
        return c >= 'a' && c <= 'z';
    }

    private static boolean digit(char c) {
        return c >= '0' && c <= '9';
    }

    private static final class Reading {
        final Isle isle = new Isle();
        private final Map<String, String> sorts = new HashMap<>();
        private final Map<String, Integer> numbers = new HashMap<>();
        private final List<Token> tokens;
        private int next;
        private int lying;

        Reading(String text) {
            tokens = tokens(text);
        }

        Isle read() {
            line();
            while (has(";")) {
                next++;
                line();
            }
            if (!has(END)) {
                throw fault(1);
            }
            if (isle.ways.isEmpty() || isle.roads.isEmpty() || isle.statues.isEmpty()) {
                throw fault(6);
            }
            return isle;
        }

        private String now() {
            return tokens.get(next).text();
        }

        private boolean has(String word) {
            return now().equals(word);
        }

        private Fault fault(int number) {
            return new Fault(number, tokens.get(next).place());
        }

        private void must(String word) {
            if (!has(word)) {
                throw fault(1);
            }
            next++;
        }

        private String one(List<String> words) {
            if (!words.contains(now())) {
                throw fault(1);
            }
            return tokens.get(next++).text();
        }

        private int whole(int low, int high) {
            if (has(END) || !digit(now().charAt(0))) {
                throw fault(1);
            }
            int value = Integer.parseInt(now());
            if (value < low || value > high) {
                throw fault(4);
            }
            next++;
            return value;
        }

        private int whole(String word, int low, int high) {
            must(word);
            return whole(low, high);
        }

        private String name() {
            if (has(END) || !small(now().charAt(0)) || TAKEN.contains(" " + now() + " ")) {
                throw fault(1);
            }
            return now();
        }

        private void tell(String sort, int number) {
            String name = name();
            if (sorts.containsKey(name)) {
                throw fault(3);
            }
            next++;
            sorts.put(name, sort);
            numbers.put(name, number);
        }

        private int told(String sort) {
            String name = name();
            if (!sort.equals(sorts.get(name))) {
                throw fault(2);
            }
            return numbers.get(name);
        }

        private void line() {
            int sort = LINES.indexOf(now());
            if (sort < 0) {
                throw fault(1);
            }
            int[] held = {isle.ways.size(), isle.roads.size(), isle.statues.size(), isle.trials.size(),
                isle.stories.size(), isle.tellers.size(), isle.things.size(), isle.land == null ? 0 : 1,
                isle.fields == null ? 0 : 1, isle.houses == null ? 0 : 1};
            if (held[sort] == ROOM[sort]) {
                throw fault(sort > 6 ? 3 : 5);
            }
            next++;
            if (sort < 7) {
                tell(LINES.get(sort), held[sort]);
            }
            switch (LINES.get(sort)) {
                case "way" -> isle.ways.add(new Way(one(KINDS), whole("weighs", 1, 99), whole("pull", 1, 20)));
                case "road" -> isle.roads.add(road());
                case "statue" -> isle.statues.add(statue());
                case "trial" -> isle.trials.add(trial());
                case "story" -> isle.stories.add(story());
                case "teller" -> isle.tellers.add(teller());
                case "try" -> isle.things.add(new Thing(shaped(), slope()));
                case "land" -> isle.land = new int[] {
                    whole("trees", 0, 999), whole("grows", 0, 50), whole("people", 0, 999)};
                case "fields" -> isle.fields = new int[] {whole(0, 999), whole("feeds", 0, 99)};
                default -> {
                    int houses = whole(0, 999);
                    int least = whole("holds", 0, 20);
                    isle.houses = new int[] {houses, least, whole("to", least, 40)};
                }
            }
        }

        private Road road() {
            int hollow = whole("hollow", 0, 9);
            must("slopes");
            List<Integer> slopes = new ArrayList<>();
            slopes.add(slope());
            while (has(",")) {
                next++;
                if (slopes.size() == 6 && (has("up") || has("down"))) {
                    throw fault(5);
                }
                slopes.add(slope());
            }
            return new Road(hollow, slopes);
        }

        private int slope() {
            boolean up = one(List.of("up", "down")).equals("up");
            int steep = whole(0, 20);
            return up ? steep : -steep;
        }

        private Statue shaped() {
            return new Statue(whole("tons", 1, 99), whole("lean", 0, 30), whole("edge", 0, 20), "", -2, -2, -2);
        }

        private Statue statue() {
            Statue s = shaped();
            if (has("lies") && lying == 8) {
                throw fault(5);
            }
            String sort = one(SORTS);
            if (!sort.equals("lies")) {
                return new Statue(s.tons, s.lean, s.edge, sort, -2, -2, -2);
            }
            lying++;
            int lie = LIES.indexOf(one(LIES));
            must("on");
            int road = told("road");
            next++;
            int at = whole("at", 0, isle.roads.get(road).slopes.size() - 1);
            return new Statue(s.tons, s.lean, s.edge, sort, lie, road, at);
        }

        private Trial trial() {
            must("of");
            int way = told("way");
            next++;
            return new Trial(way, whole("tons", 1, 99), whole("people", 1, 200), whole("yards", 1, 999),
                whole("minutes", 1, 999));
        }

        private Story story() {
            int weighs = whole("weighs", 1, 99);
            String cause = one(List.of("felled", "rats", "fires"));
            int k = whole(0, cause.equals("felled") ? 99 : 100);
            return new Story(weighs, cause, k, cause.equals("fires") ? whole("every", 1, 50) : 0);
        }

        private Teller teller() {
            whole("year", 0, 999);
            must("means");
            List<Integer> means = new ArrayList<>();
            do {
                next += means.isEmpty() ? 0 : 1;
                int way = told("way");
                if (means.contains(way)) {
                    throw fault(3);
                }
                means.add(way);
                next++;
            } while (has(","));
            boolean stranger = has("stranger");
            next += stranger ? 1 : 0;
            return new Teller(means, stranger);
        }
    }

    // ---- what is asked.

    /** What a call answers; it throws what the call throws. */
    long answer(String call, int[] a, long image) {
        switch (call) {
            case "feed": return feed(a);
            case "fault": return fault;
            case "where": return trouble == 4 ? place : -1;
            case "forget": return forget();
            case "led": return led(a[0], a[1]);
            case "size": return size(a[0]);
            case "statue": return statue(a[0], a[1]);
            case "trouble": return trouble;
            default: return asked(call, a, image);
        }
    }

    private long asked(String call, int[] a, long image) {
        try {
            trouble = 0;
            return granted(call, a, image);
        } catch (Refusal r) {
            trouble = r.number;
            switch (call) {
                case "steepest", "changed", "off": return -1000;
                case "seed", "move", "call", "restore", "turn": return 0;
                default: return -1;
            }
        }
    }

    private long granted(String call, int[] a, long image) {
        switch (call) {
            case "island": return island(a[0]);
            case "can", "canOn", "steepest", "need", "minutes", "chance", "lying", "easiest":
                return going(call, a);
            case "seed", "move", "step", "call", "at", "tries", "image", "restore":
                return moving(call, a, image);
            case "odds", "likeliest", "lies", "hollow", "shape", "changed", "told", "turn", "hangs", "tryout":
                return whichWay(call, a);
            case "people", "takes", "off", "wood", "enough": return byTrials(call, a);
            default: return byTrees(call, a);
        }
    }

    private static void refuse(boolean whether, int number) {
        if (whether) {
            throw new Refusal(number);
        }
    }

    private static boolean out(int i, int low, int high) {
        return i < low || i > high;
    }

    private <T> T pick(List<T> row, int i) {
        refuse(i < 0 || i >= row.size(), 1);
        return row.get(i);
    }

    private Way way(int i) {
        refuse(isle == null, 1);
        return pick(isle.ways, i);
    }

    private Road road(int i) {
        refuse(isle == null, 1);
        return pick(isle.roads, i);
    }

    private Statue stone(int i) {
        refuse(isle == null, 1);
        return pick(isle.statues, i);
    }

    private long feed(int[] a) {
        if (tape.length() + 20 > 900) {
            return -1;
        }
        for (int i = 0; i < 20; i++) {
            tape.append((char) (a[i / 4] >>> 8 * (3 - i % 4) & 255));
        }
        return tape.length();
    }

    private long island(int n) {
        refuse(out(n, 0, tape.length()), 2);
        String text = tape.substring(0, n);
        tape.setLength(0);
        fault = 0;
        try {
            isle = new Reading(text).read();
        } catch (Fault f) {
            fault = f.number;
            place = f.place;
            throw new Refusal(4);
        }
        move = null;
        seed = 0;
        sights.clear();
        return isle.statues.size();
    }

    private static boolean can(Way way, Statue st, int s) {
        return switch (way.kind) {
            case "walked" -> !out(st.lean, 5, 25) && st.edge >= 3 && !out(s, 0 - st.lean / 4, st.lean / 2);
            case "sled" -> !out(s, -6, 8);
            case "rolled" -> st.tons <= 30 && !out(s, -3, 5);
            default -> st.tons <= 20 && s <= 12;
        };
    }

    private static long up(long a, long b) {
        return -Math.floorDiv(-a, b);
    }

    private static long need(Way way, int tons, int s) {
        int f = switch (way.kind) {
            case "sled" -> 2;
            case "dragged" -> 3;
            default -> 1;
        };
        return up((long) tons * 10 * f * (s > 0 ? 100 + 5 * s : 100), 100L * way.pull);
    }

    private static long minutes(Way way, int tons, int s, int people) {
        int base = switch (way.kind) {
            case "walked" -> 40;
            case "sled" -> 60;
            case "rolled" -> 30;
            default -> 90;
        };
        return Math.max(up(base * need(way, tons, s), people), base / 2);
    }

    private static int chance(Way way, int edge, int s) {
        int steep = s < 0 ? -s : s;
        int sum = switch (way.kind) {
            case "walked" -> 2 * steep + (edge < 10 ? 10 - edge : 0);
            case "sled" -> steep;
            case "rolled" -> 3 * steep;
            default -> 0;
        };
        return Math.min(100, sum);
    }

    private static int woodOfATon(Way way) {
        return switch (way.kind) {
            case "sled" -> 2;
            case "rolled" -> 4;
            case "dragged" -> 1;
            default -> 0;
        };
    }

    private static int tenths(Way way, int s, int lie) {
        String row = switch (way.kind) {
            case "walked" -> s < 0 ? "811" : s == 0 ? "442" : "271";
            case "sled" -> "226";
            case "rolled" -> s < 0 ? "325" : "235";
            default -> s < 0 ? "631" : "541";
        };
        return row.charAt(lie) - '0';
    }

    private long going(String call, int[] a) {
        if (call.equals("easiest")) {
            return easiest(stone(a[0]), road(a[1]));
        }
        Way way = way(a[0]);
        if (call.equals("lying")) {
            refuse(out(a[2], 0, 2), 1);
            refuse(out(a[1], -20, 20), 2);
            return tenths(way, a[1], a[2]);
        }
        Statue st = stone(a[1]);
        if (call.equals("canOn")) {
            return bits(way, st, road(a[2]));
        }
        if (call.equals("steepest")) {
            return steepest(way, st, a[2] != 0);
        }
        refuse(out(a[2], -20, 20), 2);
        switch (call) {
            case "can": return can(way, st, a[2]) ? 1 : 0;
            case "need": return need(way, st.tons, a[2]);
            case "chance": return chance(way, st.edge, a[2]);
            default:
                refuse(out(a[3], 1, 200), 2);
                return minutes(way, st.tons, a[2], a[3]);
        }
    }

    private static long bits(Way way, Statue st, Road road) {
        long bits = 0;
        for (int i = 0; i < road.slopes.size(); i++) {
            bits += can(way, st, road.slopes.get(i)) ? 1L << i : 0;
        }
        return bits;
    }

    private static long steepest(Way way, Statue st, boolean down) {
        int found = -100;
        for (int s = -20; s <= 20; s++) {
            if (can(way, st, s) && (!down || found == -100)) {
                found = s;
            }
        }
        return found;
    }

    private long easiest(Statue st, Road road) {
        long fewest = Long.MAX_VALUE;
        int found = -2;
        for (int i = 0; i < isle.ways.size(); i++) {
            Way way = isle.ways.get(i);
            long most = 0;
            boolean all = true;
            for (int s : road.slopes) {
                all &= can(way, st, s);
                most = Math.max(most, need(way, st.tons, s));
            }
            if (all && most < fewest) {
                fewest = most;
                found = i;
            }
        }
        return found;
    }

    // ---- moves.

    private int draw() {
        seed = (int) ((75L * seed + 74) % 65537);
        return seed;
    }

    private void step(Move m) {
        Way way = isle.ways.get(m.way);
        Statue st = isle.statues.get(m.statue);
        Road road = isle.roads.get(m.road);
        int s = road.slopes.get(m.place);
        if (!can(way, st, s)) {
            m.told = 4;
            return;
        }
        if (m.people < need(way, st.tons, s)) {
            m.told = 5;
            return;
        }
        m.minutes += minutes(way, st.tons, s, m.people);
        m.gone++;
        int chance = chance(way, st.edge, s);
        if (chance > 0 && draw() % 100 < chance) {
            m.told = 3;
            int tenth = draw() % 10;
            m.lie = tenth < tenths(way, s, 0) ? 0 : tenth < tenths(way, s, 0) + tenths(way, s, 1) ? 1 : 2;
            return;
        }
        m.place++;
        m.told = m.place == road.slopes.size() ? 2 : 1;
    }

    private static Move begun(int statue, int way, int road, int people) {
        Move m = new Move();
        m.statue = statue;
        m.way = way;
        m.road = road;
        m.people = people;
        return m;
    }

    private long moving(String call, int[] a, long image) {
        switch (call) {
            case "seed":
                refuse(isle == null, 1);
                refuse(out(a[0], 0, 65536), 2);
                seed = a[0];
                return 1;
            case "move":
                stone(a[0]);
                way(a[1]);
                road(a[2]);
                refuse(out(a[3], 1, 200), 2);
                move = begun(a[0], a[1], a[2], a[3]);
                return 1;
            case "restore": return restore(image);
            case "at":
                refuse(out(a[0], 0, 8), 1);
                break;
            default:
        }
        refuse(move == null, 6);
        switch (call) {
            case "step":
                refuse(move.told != 1, 5);
                step(move);
                return move.told;
            case "call":
                refuse(out(a[0], 1, 200), 2);
                refuse(move.told >= 2 && move.told <= 4, 5);
                move.people = a[0];
                move.told = 1;
                return 1;
            case "at":
                return List.of(move.told, move.place, move.minutes, wood(move), move.lie, move.statue,
                    move.way, move.road, move.people).get(a[0]);
            case "tries":
                refuse(out(a[0], 1, 100), 2);
                return tries(a[0]);
            default:
                return image();
        }
    }

    private int wood(Move m) {
        return m.gone * woodOfATon(isle.ways.get(m.way)) * isle.statues.get(m.statue).tons;
    }

    private long tries(int n) {
        long there = 0;
        for (int i = 0; i < n; i++) {
            Move m = begun(move.statue, move.way, move.road, move.people);
            while (m.told == 1) {
                step(m);
            }
            there += m.told == 2 ? 1 : 0;
        }
        return there;
    }

    private static final int[] BASES = {6, 7, 541, 4, 10, 4, 3, 201};

    private long image() {
        int[] parts = {move.told, move.place, move.minutes, move.lie < 0 ? 3 : move.lie, move.statue, move.way,
            move.road, move.people};
        long image = seed;
        for (int i = 0; i < BASES.length; i++) {
            image = image * BASES[i] + parts[i];
        }
        return image;
    }

    private long restore(long image) {
        refuse(isle == null, 1);
        refuse(image < 0, 2);
        int[] parts = new int[BASES.length];
        long rest = image;
        for (int i = BASES.length - 1; i >= 0; i--) {
            parts[i] = (int) (rest % BASES[i]);
            rest /= BASES[i];
        }
        refuse(rest > 65536, 2);
        refuse(parts[0] == 0 || parts[7] == 0, 2);
        refuse(parts[4] >= isle.statues.size() || parts[5] >= isle.ways.size(), 2);
        refuse(parts[6] >= isle.roads.size(), 2);
        int slopes = isle.roads.get(parts[6]).slopes.size();
        refuse(parts[0] == 2 ? parts[1] != slopes : parts[1] >= slopes, 2);
        refuse(parts[0] == 3 ? parts[3] == 3 : parts[3] != 3, 2);
        move = begun(parts[4], parts[5], parts[6], parts[7]);
        move.told = parts[0];
        move.place = parts[1];
        move.minutes = parts[2];
        move.lie = parts[3] == 3 ? -2 : parts[3];
        move.gone = parts[1] + (parts[0] == 3 ? 1 : 0);
        seed = (int) rest;
        return 1;
    }

    // ---- which way.

    private static boolean lies(Statue st) {
        return st.sort.equals("lies");
    }

    private int tenths(Way way, Statue st) {
        return tenths(way, isle.roads.get(st.road).slopes.get(st.at), st.lie);
    }

    private static int hollow(Way way, Road road) {
        int deep = switch (way.kind) {
            case "walked" -> 8;
            case "sled" -> 1;
            case "rolled" -> 3;
            default -> 6;
        };
        return road.hollow < 3 ? 10 - deep : deep;
    }

    /** Null if none of them lie, or none of them stood. */
    private static Integer changed(List<Statue> statues) {
        int[] sum = new int[2];
        int[] many = new int[2];
        for (Statue st : statues) {
            int i = lies(st) ? 0 : st.sort.equals("stood") ? 1 : -1;
            if (i >= 0) {
                sum[i] += st.lean;
                many[i]++;
            }
        }
        return many[0] == 0 || many[1] == 0 ? null : sum[0] / many[0] - sum[1] / many[1];
    }

    private static int shape(Way way, List<Statue> statues) {
        Integer changed = changed(statues);
        boolean walked = way.kind.equals("walked");
        if (changed == null) {
            return 1;
        }
        return changed >= 5 ? walked ? 9 : 3 : walked ? 2 : 6;
    }

    private static int told(Teller teller, int way) {
        return teller.stranger ? 5 : teller.means.contains(way) ? 6 : 4;
    }

    private long odds(int i, List<Statue> statues) {
        Way way = isle.ways.get(i);
        long odds = (long) way.weighs * shape(way, statues);
        for (Statue st : statues) {
            odds *= lies(st) ? tenths(way, st) : 1;
        }
        for (Road road : isle.roads) {
            odds *= hollow(way, road);
        }
        for (Teller teller : isle.tellers) {
            odds *= told(teller, i);
        }
        return odds;
    }

    private int likeliest(List<Statue> statues) {
        int best = 0;
        for (int i = 1; i < isle.ways.size(); i++) {
            best = odds(i, statues) > odds(best, statues) ? i : best;
        }
        return best;
    }

    private long whichWay(String call, int[] a) {
        refuse(isle == null, 1);
        switch (call) {
            case "odds": return a[0] == -1 ? oddsOfAll() : way(a[0]) == null ? 0 : odds(a[0], isle.statues);
            case "likeliest": return likeliest(isle.statues);
            case "lies":
                refuse(!lies(stone(a[1])), 1);
                return tenths(way(a[0]), stone(a[1]));
            case "hollow": return hollow(way(a[0]), road(a[1]));
            case "shape": return shape(way(a[0]), isle.statues);
            case "changed":
                refuse(changed(isle.statues) == null, 6);
                return changed(isle.statues);
            case "told": return way(a[0]) == null ? 0 : told(pick(isle.tellers, a[1]), a[0]);
            case "turn": return turn(a[0], a[1]);
            case "hangs": return hangs();
            default: return tryout();
        }
    }

    private long oddsOfAll() {
        long all = 0;
        for (int i = 0; i < isle.ways.size(); i++) {
            all += odds(i, isle.statues);
        }
        return all;
    }

    private long turn(int t, int lie) {
        Statue st = stone(t);
        refuse(out(lie, 0, 2), 1);
        refuse(!lies(st), 5);
        isle.statues.set(t, new Statue(st.tons, st.lean, st.edge, st.sort, lie, st.road, st.at));
        return 1;
    }

    private long hangs() {
        for (int i = 0; i < isle.statues.size(); i++) {
            List<Statue> rest = new ArrayList<>(isle.statues);
            if (lies(rest.remove(i)) && likeliest(rest) != likeliest(isle.statues)) {
                return i;
            }
        }
        return -2;
    }

    private long tryout() {
        refuse(isle.things.isEmpty(), 6);
        int best = -1;
        long least = 0;
        for (int t = 0; t < isle.things.size(); t++) {
            Thing thing = isle.things.get(t);
            long able = 0;
            long unable = 0;
            for (int i = 0; i < isle.ways.size(); i++) {
                long odds = odds(i, isle.statues);
                if (can(isle.ways.get(i), thing.statue, thing.slope)) {
                    able += odds;
                } else {
                    unable += odds;
                }
            }
            if (best < 0 || Math.max(able, unable) < least) {
                least = Math.max(able, unable);
                best = t;
            }
        }
        return best;
    }

    // ---- trials, wood.

    private long byTrials(String call, int[] a) {
        if (call.equals("off")) {
            refuse(isle == null, 1);
            Trial trial = pick(isle.trials, a[0]);
            return need(isle.ways.get(trial.way), trial.tons, 0) - trial.people;
        }
        Way way = way(a[0]);
        if (call.equals("wood")) {
            return wood(way);
        }
        if (call.equals("enough")) {
            refuse(isle.land == null, 6);
            return isle.land[0] * 10 >= wood(way) ? 1 : 0;
        }
        boolean people = call.equals("people");
        refuse(out(a[1], 1, people ? 400 : 9999), 2);
        List<Long> all = new ArrayList<>();
        int heaviest = 0;
        for (Trial trial : isle.trials) {
            if (trial.way == a[0]) {
                all.add(people ? up((long) a[1] * trial.people, trial.tons)
                    : up((long) a[1] * trial.minutes, trial.yards));
                heaviest = Math.max(heaviest, trial.tons);
            }
        }
        refuse(all.isEmpty() || people && a[1] > 4 * heaviest, 6);
        all.sort(null);
        return all.get(a[2] != 0 ? all.size() - 1 : 0);
    }

    private long wood(Way way) {
        long wood = 0;
        for (Statue st : isle.statues) {
            int slopes = lies(st) ? st.at : st.sort.equals("stood") ? isle.roads.get(0).slopes.size() : 0;
            wood += (long) slopes * st.tons * woodOfATon(way);
        }
        return wood;
    }

    // ---- trees, people.

    private int trees(Story story, int year) {
        int trees = isle.land[0];
        for (int y = 1; y <= year; y++) {
            int grow = trees * isle.land[1] / 100;
            int lose = trees * 2 / 100;
            switch (story.cause) {
                case "felled" -> lose += story.k * isle.land[2] / 100;
                case "rats" -> grow = grow * (100 - story.k) / 100;
                default -> lose += y % story.every == 0 ? trees * story.k / 100 : 0;
            }
            trees = Math.min(9999, Math.max(0, trees + grow - lose));
        }
        return trees;
    }

    private List<Integer> fits() {
        List<Integer> fits = new ArrayList<>();
        for (int i = 0; i < isle.stories.size(); i++) {
            boolean agrees = true;
            for (Sight sight : sights) {
                agrees &= Math.abs(trees(isle.stories.get(i), sight.year) - sight.trees) <= sight.off;
            }
            if (agrees) {
                fits.add(i);
            }
        }
        return fits;
    }

    private long byTrees(String call, int[] a) {
        refuse(isle == null, 1);
        if (call.equals("see")) {
            refuse(out(a[0], 0, 99) || out(a[1], 0, 9999) || out(a[2], 0, 999), 2);
            refuse(sights.size() == 12, 3);
            sights.add(new Sight(a[0], a[1], a[2]));
            return sights.size();
        }
        if (call.equals("lived")) {
            refuse(isle.fields == null || isle.houses == null, 6);
            return Math.min(isle.fields[0] * isle.fields[1], isle.houses[0] * isle.houses[a[0] != 0 ? 2 : 1]);
        }
        Story story = call.equals("trees") || call.equals("gone") ? pick(isle.stories, a[0]) : null;
        refuse(call.equals("trees") && out(a[1], 0, 99), 2);
        refuse(isle.land == null, 6);
        switch (call) {
            case "trees": return trees(story, a[1]);
            case "gone": return gone(story);
            case "dig": return dig();
            default:
        }
        long sum = 0;
        for (int i : fits()) {
            sum += call.equals("fits") ? 1L << i : isle.stories.get(i).weighs;
        }
        return sum;
    }

    private long gone(Story story) {
        for (int year = 0; year <= 99; year++) {
            if (trees(story, year) < 10) {
                return year;
            }
        }
        return -2;
    }

    private long dig() {
        List<Integer> fits = fits();
        refuse(fits.isEmpty(), 6);
        int found = 0;
        int most = 0;
        for (int year = 0; year <= 99; year++) {
            List<Integer> trees = new ArrayList<>();
            for (int i : fits) {
                trees.add(trees(isle.stories.get(i), year));
            }
            trees.sort(null);
            int differ = trees.get(trees.size() - 1) - trees.get(0);
            if (differ > most) {
                most = differ;
                found = year;
            }
        }
        return found;
    }

    // ---- those that tell no number.

    private long forget() {
        int many = sights.size();
        sights.clear();
        return many;
    }

    private long led(int way, int i) {
        List<Integer> led = new ArrayList<>();
        if (isle != null && way >= 0 && way < isle.ways.size()) {
            for (int t = 0; t < isle.statues.size(); t++) {
                if (lies(isle.statues.get(t)) && tenths(isle.ways.get(way), isle.statues.get(t)) >= 5) {
                    led.add(t);
                }
            }
        }
        if (i < 0 || i >= led.size()) {
            throw new NoSuchElementException();
        }
        return led.get(i);
    }

    private int many(List<?> row) {
        return row.size();
    }

    private long size(int what) {
        if (out(what, 0, 10)) {
            return -1;
        }
        if (what == 7) {
            return sights.size();
        }
        if (what == 8) {
            return seed;
        }
        if (what == 9) {
            return tape.length();
        }
        if (isle == null) {
            return 0;
        }
        if (what == 10) {
            int lie = 0;
            for (Statue st : isle.statues) {
                lie += lies(st) ? 1 : 0;
            }
            return lie;
        }
        return List.of(many(isle.ways), many(isle.roads), many(isle.statues), many(isle.trials),
            many(isle.stories), many(isle.tellers), many(isle.things)).get(what);
    }

    private long statue(int t, int what) {
        if (isle == null || t < 0 || t >= isle.statues.size() || out(what, 0, 6)) {
            return -1;
        }
        Statue st = isle.statues.get(t);
        return List.of(st.tons, st.lean, st.edge, SORTS.indexOf(st.sort), st.lie, st.road, st.at).get(what);
    }
}
