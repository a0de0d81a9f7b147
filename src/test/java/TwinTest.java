import java.util.ArrayList;
import java.util.List;
import java.util.Map;
import java.util.NoSuchElementException;
import java.util.TreeMap;

/**
 * Runs of calls by a fixed row of numbers, of texts sound and faulty: each answer is compared with
 * that of Twin, which tells the document a second time.
 */
public final class TwinTest {
    private static final int RUNS = Integer.getInteger("runs", 1500);
    private static final int MOST_CALLS = 512;
    private static final int THROWN = -7;
    private static final String[] CALLS = {
        "feed", "island", "can", "canOn", "steepest", "need", "minutes", "chance", "lying", "easiest",
        "seed", "move", "move", "step", "step", "step", "step", "step", "call", "at", "tries", "image",
        "restore", "restore", "odds", "likeliest", "lies", "hollow", "shape", "changed", "told", "turn",
        "hangs", "tryout", "people", "takes", "off", "wood", "enough", "trees", "see", "see", "forget",
        "fits", "weight", "gone", "dig", "lived", "led", "size", "statue",
    };
    private static final int[] ODD = {Integer.MIN_VALUE, -65537, -1000, -21, -20, -2, -1, 20, 21, 99, 100,
        101, 200, 201, 400, 401, 999, 1000, 9999, 10000, 65536, 65537, Integer.MAX_VALUE};
    /** Which arguments are numbers of what size() counts: its number, a colon, calls and places. */
    private static final String INDEXED =
        "0: can0 canOn0 steepest0 need0 minutes0 chance0 lying0 move1 lies0 hollow0 shape0 told0 people0 "
        + "takes0 wood0 enough0 led0 1: canOn2 easiest1 move2 hollow1 2: can1 canOn1 steepest1 need1 "
        + "minutes1 chance1 easiest0 move0 lies1 turn0 statue0 3: off0 4: trees0 gone0 5: told1 ";
    /** Each number of TROUBLE that a call can tell; 0 if it can be granted. */
    private static final String TROUBLES =
        "island 024, can 012, canOn 01, steepest 01, need 012, minutes 012, chance 012, lying 012, easiest 01, "
        + "seed 012, move 012, step 056, call 0256, at 016, tries 026, image 06, restore 012, odds 01, "
        + "likeliest 01, lies 01, hollow 01, shape 01, changed 016, told 01, turn 015, hangs 01, tryout 016, "
        + "people 0126, takes 0126, off 01, wood 01, enough 016, trees 0126, see 0123, fits 016, weight 016, "
        + "gone 016, dig 016, lived 016";
    private static final long[] BASES = {6, 7, 541, 4, 10, 4, 3, 201};
    private static final String[] WORDS = {"way", "road", "up", "lies", "stranger", "at", "w", "r", "land",
        "houses", "7", "0", "1000", "abcdefghi", ";", ",", ".", "to", "every", "try", "fields"};

    private static long state;
    private static int calls;
    private static StoneWalk stone;
    private static Twin twin;
    private static long image;
    private static final boolean[] faultsMet = new boolean[7];
    /** Each call and TROUBLE behind it, how often; each answer of step(), too. */
    private static final Map<String, Integer> met = new TreeMap<>();
    private static int sound;

    public static void main(String[] args) {
        for (int run = 0; run < RUNS; run++) {
            state = run;
            stone = new StoneWalk();
            twin = new Twin();
            calls = 0;
            image = -1;
            boolean alike = run % 19 == 0 || tellBoth(run);
            while (alike && calls + 60 < MOST_CALLS) {
                boolean bare = run % 19 != 0 && due("size", new int[] {2}, 0) == 0;
                alike = next(bare ? 2 : 70) == 0 ? tellBoth(run) : same(run, call(run));
            }
        }
        for (int number = 1; number <= 6; number++) {
            Check.due("fault " + number + " was met", faultsMet[number], true);
        }
        Check.due("more than half as many sound texts as runs: " + sound, sound > RUNS / 2, true);
        for (String row : TROUBLES.split(", ")) {
            allMet(row.substring(0, row.indexOf(' ')), row.substring(row.indexOf(' ') + 1));
        }
        allMet("step()", "12345");
        Check.end("TwinTest");
    }

    /** A call was made so that trouble() told each of some numbers, and no other. */
    private static void allMet(String call, String numbers) {
        for (char number = '0'; number <= '9'; number++) {
            boolean found = met.containsKey(call + " " + number);
            Check.due(call + " " + number + " was met", found, numbers.indexOf(number) >= 0);
        }
    }

    private static int next(int bound) {
        state = state * 6364136223846793005L + 1442695040888963407L;
        return (int) ((state >>> 33) % bound);
    }

    /** Each run has a call of its own that is made more often, so that all of them come in rows. */
    private static String call(int run) {
        return CALLS[next(3) == 0 ? run % CALLS.length : next(CALLS.length)];
    }

    /** An argument that is often of use, at times at an edge or far off. */
    private static int argument(String call, int i) {
        if (next(25) == 0) {
            return ODD[next(ODD.length)];
        }
        String kind = call + i;
        int sort = INDEXED.indexOf(" " + kind + " ");
        if (sort >= 0) {
            return index(INDEXED.charAt(INDEXED.lastIndexOf(':', sort) - 1) - '0');
        }
        switch (kind) {
            case "can2", "need2", "chance2", "minutes2", "lying1": return next(43) - 21;
            case "minutes3", "move3", "call0": return next(2) == 0 ? 200 - next(100) : next(202);
            case "see0", "trees1": return next(101);
            case "see1": return next(4) == 0 ? next(10001) : next(300);
            case "see2": return next(1001);
            case "tries0": return next(102);
            case "people1": return 1 + next(next(3) == 0 ? 400 : 60);
            case "takes1": return next(10001);
            case "seed0": return next(65538);
            case "island0", "size0", "at0": return next(12) - (next(12) == 0 ? 1 : 0);
            case "lying2", "turn1": return next(9) == 0 ? 3 : next(3);
            case "odds0": return index(0) - (next(3) == 0 ? 1 : 0);
            case "steepest2", "people2", "takes2", "lived0": return next(2);
            case "statue1": return next(next(9) == 0 ? 8 : 7);
            default: return next(next(3) == 0 ? 11 : 4) - (next(12) == 0 ? 1 : 0);
        }
    }

    /** One of those that size() counts so, now and then the first behind them. */
    private static int index(int what) {
        int many = (int) due("size", new int[] {what}, 0);
        return many == 0 || next(20) == 0 ? many : next(many);
    }

    private static long anImage() {
        if (next(3) == 0) {
            return image;
        }
        if (next(5) == 0) {
            return (long) next(1 << 30) * next(1 << 30) * (next(3) - 1);
        }
        int told = next(6);
        long[] parts = {told, next(4), next(541), told == 3 ? next(4) : 3 - next(10) / 9, next(4), next(3),
            next(2), next(201)};
        long made = next(next(9) == 0 ? 70000 : 65537);
        for (int i = 0; i < parts.length; i++) {
            made = made * BASES[i] + parts[i];
        }
        return made;
    }

    /** Makes one call of both, and looks at what they tell of it then; whether they are alike. */
    private static boolean same(int run, String call) {
        int[] a = new int[5];
        StringBuilder what = new StringBuilder("run " + run + ": " + call + "(");
        for (int i = 0; i < a.length; i++) {
            a[i] = argument(call, i);
            what.append(a[i]).append(i < a.length - 1 ? ", " : ") ");
        }
        return same(what.toString(), call, a);
    }

    private static boolean same(String what, String call, int[] a) {
        long from = call.equals("restore") ? anImage() : 0;
        long got = answer(call, a, from);
        long due = due(call, a, from);
        image = call.equals("image") && due >= 0 ? due : image;
        calls += 4;
        boolean alike = got == due && stone.trouble() == due("trouble", a, 0)
            && stone.where() == due("where", a, 0) && stone.fault() == due("fault", a, 0);
        Check.due(what + from, alike ? due : got, due);
        Check.due(what + from + " told alike", alike, true);
        met.merge(call + " " + due("trouble", a, 0), 1, Integer::sum);
        if (call.equals("step") && due > 0) {
            met.merge("step() " + due, 1, Integer::sum);
        }
        faultsMet[(int) due("fault", a, 0)] = true;
        return alike;
    }

    private static long due(String call, int[] a, long from) {
        try {
            return twin.answer(call, a, from);
        } catch (NoSuchElementException e) {
            return THROWN;
        }
    }

    private static long answer(String call, int[] a, long from) {
        switch (call) {
            case "feed": return stone.feed(a[0], a[1], a[2], a[3], a[4]);
            case "island": return stone.island(a[0]);
            case "can": return stone.can(a[0], a[1], a[2]);
            case "canOn": return stone.canOn(a[0], a[1], a[2]);
            case "steepest": return stone.steepest(a[0], a[1], a[2] != 0);
            case "need": return stone.need(a[0], a[1], a[2]);
            case "minutes": return stone.minutes(a[0], a[1], a[2], a[3]);
            case "chance": return stone.chance(a[0], a[1], a[2]);
            case "lying": return stone.lying(a[0], a[1], a[2]);
            case "easiest": return stone.easiest(a[0], a[1]);
            case "seed": return stone.seed(a[0]) ? 1 : 0;
            case "move": return stone.move(a[0], a[1], a[2], a[3]) ? 1 : 0;
            case "step": return stone.step();
            case "call": return stone.call(a[0]) ? 1 : 0;
            case "at": return stone.at(a[0]);
            case "tries": return stone.tries(a[0]);
            case "image": return stone.image();
            case "restore": return stone.restore(from) ? 1 : 0;
            case "odds": return stone.odds(a[0]);
            case "likeliest": return stone.likeliest();
            case "lies": return stone.lies(a[0], a[1]);
            case "hollow": return stone.hollow(a[0], a[1]);
            case "shape": return stone.shape(a[0]);
            case "changed": return stone.changed();
            default: return answerMore(call, a);
        }
    }

    private static long answerMore(String call, int[] a) {
        switch (call) {
            case "told": return stone.told(a[0], a[1]);
            case "turn": return stone.turn(a[0], a[1]) ? 1 : 0;
            case "hangs": return stone.hangs();
            case "tryout": return stone.tryout();
            case "people": return stone.people(a[0], a[1], a[2] != 0);
            case "takes": return stone.takes(a[0], a[1], a[2] != 0);
            case "off": return stone.off(a[0]);
            case "wood": return stone.wood(a[0]);
            case "enough": return stone.enough(a[0]);
            case "trees": return stone.trees(a[0], a[1]);
            case "see": return stone.see(a[0], a[1], a[2]);
            case "forget": return stone.forget();
            case "fits": return stone.fits();
            case "weight": return stone.weight();
            case "gone": return stone.gone(a[0]);
            case "dig": return stone.dig();
            case "lived": return stone.lived(a[0] != 0);
            case "size": return stone.size(a[0]);
            case "statue": return stone.statue(a[0], a[1]);
            default:
                try {
                    return stone.led(a[0], a[1]);
                } catch (NoSuchElementException e) {
                    return THROWN;
                }
        }
    }

    // ---- texts.

    /** Feeds a text to both, and makes it their island; whether they are alike. */
    private static boolean tellBoth(int run) {
        String text = text();
        stone.island(stone.size(9));
        due("island", new int[] {(int) due("size", new int[] {9}, 0)}, 0);
        calls += 3;
        for (int i = 0; i < text.length(); i += 20) {
            int[] a = new int[5];
            for (int k = 0; k < 20; k++) {
                a[k / 4] = a[k / 4] << 8 | (i + k < text.length() ? text.charAt(i + k) : ' ');
            }
            Check.due("run " + run + ": feed " + i, stone.feed(a[0], a[1], a[2], a[3], a[4]), due("feed", a, 0));
            calls++;
        }
        boolean alike = same("run " + run + ": island of " + text, "island", new int[] {text.length()});
        sound += stone.fault() == 0 ? 1 : 0;
        return alike;
    }

    /** Of a hundred texts this many WHOLES are out of bounds, this many NAMES amiss. */
    private static int amiss;
    private static int names;
    private static String roadNames;
    private static String wayNames;

    private static String text() {
        amiss = next(3) == 0 ? 2 : 0;
        String text;
        do {
            text = lines();
        } while (text.length() > 900);
        while (next(6) == 0) {
            int at = next(text.length() + 1);
            text = next(2) == 0 ? text.substring(0, at) + WORDS[next(WORDS.length)] + text.substring(at)
                : text.substring(0, at) + " " + WORDS[next(WORDS.length)] + " "
                    + text.substring(Math.min(text.length(), at + next(9)));
        }
        if (next(15) == 0) {
            text = text.substring(0, next(text.length() + 1));
        }
        return text.length() > 900 ? text.substring(0, 900) : text;
    }

    private static String lines() {
        names = 0;
        roadNames = "";
        wayNames = "";
        List<String> lines = new ArrayList<>();
        for (int i = many(4); i > 0; i--) {
            lines.add(wayLine());
        }
        for (int i = many(3); i > 0; i--) {
            lines.add(roadLine());
        }
        int lying = 0;
        for (int i = many(next(3) == 0 ? 10 : 5); i > 0; i--) {
            boolean lies = next(3) != 0 && (lying < 8 || next(3) == 0);
            lying += lies ? 1 : 0;
            lines.add("statue " + name() + shape() + (lies ? lyingAt() : " " + pick("cut", "large", "buried",
                "stood", "stood", "stood", "tried")));
        }
        for (int i = next(2) * many(5); i > 0; i--) {
            lines.add("trial " + name() + " of " + told(wayNames) + whole(" tons ", 1, 99)
                + whole(" people ", 1, 200) + whole(" yards ", 1, 999) + whole(" minutes ", 1, 999));
        }
        addLand(lines);
        for (int i = next(2) * many(5); i > 0; i--) {
            String cause = pick("felled", "rats", "fires");
            lines.add("story " + name() + whole(" weighs ", 1, 99) + whole(" " + cause + " ", 0,
                cause.equals("felled") ? 99 : 100) + (cause.equals("fires") ? whole(" every ", 1, 50) : ""));
        }
        for (int i = next(2) * many(3); i > 0; i--) {
            lines.add(tellerLine());
        }
        for (int i = next(2) * many(5); i > 0; i--) {
            lines.add("try " + name() + shape() + slope());
        }
        return join(lines);
    }

    private static void addLand(List<String> lines) {
        for (int i = next(4) == 0 ? 0 : 1 + (slip() ? 1 : 0); i > 0; i--) {
            lines.add("land" + whole(" trees ", 0, 999) + whole(" grows ", 0, next(2) == 0 ? 50 : 5)
                + whole(" people ", 0, 999));
        }
        for (int i = next(4) == 0 ? 0 : 1 + (slip() ? 1 : 0); i > 0; i--) {
            lines.add("fields" + whole(" ", 0, 999) + whole(" feeds ", 0, 99));
        }
        for (int i = next(4) == 0 ? 0 : 1 + (slip() ? 1 : 0); i > 0; i--) {
            int least = next(21);
            lines.add("houses" + whole(" ", 0, 999) + " holds " + least + whole(" to ", least, 40));
        }
    }

    /** In order, but for a line that stands elsewhere now and then; land may stand anywhere. */
    private static String join(List<String> lines) {
        for (int i = 0; i < lines.size(); i++) {
            boolean free = lines.get(i).startsWith("land") || lines.get(i).startsWith("try");
            if (free || slip()) {
                String line = lines.remove(i);
                lines.add(next(lines.size() + 1), line);
            }
        }
        return String.join(next(5) == 0 ? "  ; " : ";", lines);
    }

    private static boolean slip() {
        return next(100) < amiss;
    }

    private static int many(int room) {
        return slip() ? room + 1 : slip() ? 0 : 1 + next(room);
    }

    private static String pick(String... words) {
        return words[next(words.length)];
    }

    private static String whole(String front, int low, int high) {
        if (slip()) {
            return front + pick("" + (high + 1), "" + Math.max(0, low - 1), "0", "999", "1000");
        }
        if (next(5) == 0) {
            return front + (next(2) == 0 ? low : high);
        }
        return front + (low + next(high - low + 1));
    }

    private static String name() {
        if (slip() && names > 0) {
            return "n" + (char) ('a' + next(names));
        }
        return "n" + (char) ('a' + Math.min(25, names)) + (names++ < 26 ? "" : "x" + (char) ('a' + names % 26));
    }

    private static String told(String row) {
        if (slip() || row.isEmpty()) {
            return pick("nz", "na", "nb", "nc", "nd");
        }
        return row.substring(next(row.length() / 2) * 2).substring(0, 2);
    }

    private static String wayLine() {
        String name = name();
        wayNames += name;
        return "way " + name + " " + pick("walked", "sled", "rolled", "dragged") + whole(" weighs ", 1, 99)
            + whole(" pull ", 1, 20);
    }

    private static String roadLine() {
        String name = name();
        roadNames += name;
        StringBuilder line = new StringBuilder("road " + name + whole(" hollow ", 0, 9) + " slopes" + slope());
        for (int i = slip() ? 6 : next(6); i > 0; i--) {
            line.append(",").append(slope());
        }
        return line.toString();
    }

    private static String slope() {
        return next(3) == 0 ? whole(" " + pick("up", "down") + " ", 0, 20) : " " + pick("up", "down") + " " + next(7);
    }

    private static String shape() {
        return whole(" tons ", 1, next(2) == 0 ? 99 : 25) + whole(" lean ", 0, 30) + whole(" edge ", 0, 20);
    }

    private static String lyingAt() {
        return " lies " + pick("face", "back", "side") + " on " + told(roadNames) + " at "
            + next(next(3) == 0 || slip() ? 4 : 1);
    }

    private static String tellerLine() {
        StringBuilder line = new StringBuilder("teller " + name() + " year " + next(1000) + " means ");
        int from = 0;
        for (int i = 0; i < wayNames.length() / 2; i++) {
            if (from == 0 || next(2) == 0) {
                line.append(from++ == 0 ? "" : ",").append(wayNames, 2 * i, 2 * i + 2);
            }
        }
        line.append(slip() ? "," + told(wayNames) : from == 0 ? "nz" : "");
        return line.append(next(3) == 0 ? " stranger" : "").toString();
    }
}
