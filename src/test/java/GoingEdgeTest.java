/** Term II but for the MOVE, promises 6 to 13: a test of each sentence that names a bound or an edge. */
public final class GoingEdgeTest {
    private static final int WALKED = 0;
    private static final int SLED = 1;
    private static final int ROLLED = 2;
    private static final int DRAGGED = 3;
    private static final String[] KINDS = {"walked", "sled", "rolled", "dragged"};
    private static final String WAYS = "way w walked weighs 1 pull 1;way l sled weighs 1 pull 1;"
        + "way k rolled weighs 1 pull 1;way g dragged weighs 1 pull 1;road r hollow 1 slopes up 1";
    private static final int[] F = {1, 2, 1, 3};
    private static final int[] BASE = {40, 60, 30, 90};

    public static void main(String[] args) {
        walkedByLean();
        walkedByEdge();
        sled();
        rolledByTons();
        draggedByTons();
        bitsOfSlopes();
        noneOfTheSlopes();
        steepestOfAll();
        needUpwards();
        needAboveTheLevel();
        needWithPull();
        minutesUpwards();
        minutesNoLessThanHalf();
        chanceWalked();
        chanceOfOthers();
        lyingByTheSlope();
        easiestFirst();
        easiestAllAlong();
        easiestByTheMost();
        toldWithoutGoing();
        Check.end("GoingEdgeTest");
    }

    private static String statue(char name, int tons, int lean, int edge) {
        return ";statue " + name + " tons " + tons + " lean " + lean + " edge " + edge + " cut";
    }

    private static StoneWalk one(int tons, int lean, int edge) {
        return Check.told(WAYS + statue('a', tons, lean, edge));
    }

    /** A statue CAN on low .. high; on none if high is less. */
    private static void range(String what, StoneWalk x, int way, int low, int high) {
        for (int s = -20; s <= 20; s++) {
            Check.due(x, "can " + what + " on " + s, x.can(way, 0, s),
                s >= low && s <= high ? 1 : 0, 0);
        }
        Check.due(x, "steepest " + what, x.steepest(way, 0, false), low > high ? -100 : high, 0);
        Check.due(x, "the least " + what, x.steepest(way, 0, true), low > high ? -100 : low, 0);
    }

    /** "walked, if lean is 5 .. 25, .. no more than lean by 2, no less than 0 less lean by 4". */
    private static void walkedByLean() {
        int[] least = {1, 1, 1, 1, 1, -1, -1, -1, -2, -2, -2, -2, -3, -3, -3, -3, -4, -4, -4, -4,
            -5, -5, -5, -5, -6, -6, 1, 1, 1, 1, 1};
        int[] most = {0, 0, 0, 0, 0, 2, 3, 3, 4, 4, 5, 5, 6, 6, 7, 7, 8, 8, 9, 9,
            10, 10, 11, 11, 12, 12, 0, 0, 0, 0, 0};
        for (int lean = 0; lean <= 30; lean++) {
            range("walked with lean " + lean, one(50, lean, 10), WALKED, least[lean], most[lean]);
        }
    }

    /** "edge 3 or more". */
    private static void walkedByEdge() {
        for (int edge = 0; edge <= 20; edge++) {
            int high = edge >= 3 ? 5 : -20;
            range("walked with edge " + edge, one(1, 10, edge), WALKED, -2, high);
        }
        // Of no matter: tons.
        range("walked with 99 tons", one(99, 10, 3), WALKED, -2, 5);
    }

    /** "sled, if s is -6 .. 8", whatever the statue. */
    private static void sled() {
        range("by sled", one(1, 10, 10), SLED, -6, 8);
        range("by sled with 99 tons", one(99, 30, 0), SLED, -6, 8);
        range("by sled without lean", one(99, 0, 20), SLED, -6, 8);
    }

    /** "rolled, if tons are 30 at most, s is -3 .. 5". */
    private static void rolledByTons() {
        for (int tons : new int[] {1, 20, 21, 29, 30}) {
            range("rolled with " + tons + " tons", one(tons, 0, 0), ROLLED, -3, 5);
        }
        for (int tons : new int[] {31, 32, 99}) {
            range("rolled with " + tons + " tons", one(tons, 10, 10), ROLLED, 1, 0);
        }
    }

    /** "dragged, if tons are 20 at most, s is 12 at most": down to -20, the least there is. */
    private static void draggedByTons() {
        for (int tons : new int[] {1, 19, 20}) {
            range("dragged with " + tons + " tons", one(tons, 0, 0), DRAGGED, -20, 12);
        }
        for (int tons : new int[] {21, 22, 30, 99}) {
            range("dragged with " + tons + " tons", one(tons, 10, 10), DRAGGED, 1, 0);
        }
    }

    /** Promise 7: "as bits": of the first SLOPE the least. */
    private static void bitsOfSlopes() {
        for (int bits = 0; bits < 64; bits++) {
            StringBuilder road = new StringBuilder("way l sled weighs 1 pull 1;road r hollow 1 slopes ");
            for (int i = 0; i < 6; i++) {
                road.append(i == 0 ? "" : ",").append((bits >> i & 1) == 1 ? "up 8" : "up 9");
            }
            StoneWalk x = Check.told(road + statue('a', 1, 1, 1));
            Check.due(x, "canOn() of " + bits, x.canOn(0, 0, 0), bits, 0);
        }
        StoneWalk y = Check.told("way l sled weighs 1 pull 1;road r hollow 1 slopes down 6"
            + ";road q hollow 1 slopes down 7,down 6,down 7;road p hollow 1 slopes down 7"
            + statue('a', 1, 1, 1));
        Check.due(y, "canOn() of one", y.canOn(0, 0, 0), 1, 0);
        Check.due(y, "canOn() of the second", y.canOn(0, 0, 1), 2, 0);
        Check.due(y, "canOn() of none", y.canOn(0, 0, 2), 0, 0);
    }

    /** Promise 8: "-100 if there is none"; -1,000 only by 1. */
    private static void noneOfTheSlopes() {
        StoneWalk x = one(31, 4, 10);
        for (boolean down : new boolean[] {false, true}) {
            Check.due(x, "steepest walked", x.steepest(WALKED, 0, down), -100, 0);
            Check.due(x, "steepest rolled", x.steepest(ROLLED, 0, down), -100, 0);
            Check.due(x, "steepest dragged", x.steepest(DRAGGED, 0, down), -100, 0);
            Check.due(x, "steepest of none", x.steepest(DRAGGED, 1, down), -1000, Check.NO_SUCH);
            Check.due(x, "steepest by none", x.steepest(4, 0, down), -1000, Check.NO_SUCH);
        }
    }

    /** Promise 8: "(or, down, the least) SLOPE, -20 .. 20". */
    private static void steepestOfAll() {
        StoneWalk x = one(20, 25, 3);
        Check.due(x, "steepest dragged", x.steepest(DRAGGED, 0, false), 12, 0);
        Check.due(x, "the least dragged", x.steepest(DRAGGED, 0, true), -20, 0);
        Check.due(x, "steepest walked", x.steepest(WALKED, 0, false), 12, 0);
        Check.due(x, "the least walked", x.steepest(WALKED, 0, true), -6, 0);
        Check.due(x, "the least rolled", x.steepest(ROLLED, 0, true), -3, 0);
        Check.due(x, "the least by sled", x.steepest(SLED, 0, true), -6, 0);
    }

    private static long upwards(long a, long b) {
        return a / b + (a % b == 0 ? 0 : 1);
    }

    /** "tons times 10 times F times (..) by 100 times pull, upwards": of each kind, F. */
    private static void needUpwards() {
        for (int pull : new int[] {1, 2, 3, 7, 10, 19, 20}) {
            for (int tons : new int[] {1, 2, 3, 20, 98, 99}) {
                StoneWalk x = Check.told(WAYS.replace("pull 1", "pull " + pull)
                    + statue('a', tons, 10, 10));
                for (int kind = 0; kind < 4; kind++) {
                    for (int s = -20; s <= 20; s += 4) {
                        long due = upwards(tons * 10L * F[kind] * (100 + 5 * Math.max(0, s)),
                            100L * pull);
                        Check.due(x, "need of " + tons + " tons, pull " + pull + ", " + KINDS[kind]
                            + " on " + s, x.need(kind, 0, s), due, 0);
                    }
                }
            }
        }
    }

    /** "(100 and 5 times s, if s is above 0)": not on the level, not below it. */
    private static void needAboveTheLevel() {
        StoneWalk x = one(20, 10, 10);
        Check.due(x, "need on -20", x.need(WALKED, 0, -20), 200, 0);
        Check.due(x, "need on -1", x.need(WALKED, 0, -1), 200, 0);
        Check.due(x, "need on 0", x.need(WALKED, 0, 0), 200, 0);
        Check.due(x, "need on 1", x.need(WALKED, 0, 1), 210, 0);
        Check.due(x, "need on 20", x.need(WALKED, 0, 20), 400, 0);
        Check.due(x, "need by sled on 1", x.need(SLED, 0, 1), 420, 0);
        Check.due(x, "need rolled on 1", x.need(ROLLED, 0, 1), 210, 0);
        Check.due(x, "need dragged on 1", x.need(DRAGGED, 0, 1), 630, 0);
    }

    /** "by 100 times pull, upwards": what goes into it evenly isn't one more. */
    private static void needWithPull() {
        String ways = "way w walked weighs 1 pull 20;way v walked weighs 1 pull 19;"
            + "way u walked weighs 1 pull 10;road r hollow 1 slopes up 1";
        StoneWalk x = Check.told(ways + statue('a', 2, 10, 10) + statue('b', 4, 10, 10)
            + statue('c', 1, 10, 10) + statue('d', 19, 10, 10));
        Check.due(x, "20 by 20", x.need(0, 0, 0), 1, 0);
        Check.due(x, "20 by 19", x.need(1, 0, 0), 2, 0);
        Check.due(x, "20 by 10", x.need(2, 0, 0), 2, 0);
        Check.due(x, "40 by 20", x.need(0, 1, 0), 2, 0);
        Check.due(x, "40 by 19", x.need(1, 1, 0), 3, 0);
        Check.due(x, "10 by 20", x.need(0, 2, 0), 1, 0);
        Check.due(x, "190 by 19", x.need(1, 3, 0), 10, 0);
        Check.due(x, "190 by 20", x.need(0, 3, 0), 10, 0);
        // 10.5 by 10 on 1.
        Check.due(x, "10.5 by 10", x.need(2, 2, 1), 2, 0);
    }

    /** "BASE times NEED by people, upwards". */
    private static void minutesUpwards() {
        for (int tons : new int[] {1, 7, 20, 99}) {
            StoneWalk x = one(tons, 10, 10);
            for (int kind = 0; kind < 4; kind++) {
                for (int people : new int[] {1, 2, 3, 7, 99, 100, 101, 199, 200}) {
                    long due = Math.max(upwards((long) BASE[kind] * x.need(kind, 0, 3), people),
                        BASE[kind] / 2);
                    Check.due(x, "minutes of " + tons + " tons, " + KINDS[kind] + ", by " + people,
                        x.minutes(kind, 0, 3, people), due, 0);
                }
            }
        }
        StoneWalk y = one(1, 10, 10);
        // NEED 10: 400 by them.
        Check.due(y, "400 by 19", y.minutes(WALKED, 0, 0, 19), 22, 0);
        Check.due(y, "400 by 16", y.minutes(WALKED, 0, 0, 16), 25, 0);
        Check.due(y, "400 by 1", y.minutes(WALKED, 0, 0, 1), 400, 0);
    }

    /** "but no less than BASE by 2": with twice as many people as NEED, and with more. */
    private static void minutesNoLessThanHalf() {
        StoneWalk x = one(1, 10, 10);
        int[] need = {10, 20, 10, 30};
        for (int kind = 0; kind < 4; kind++) {
            int half = BASE[kind] / 2;
            Check.due(x, "need, " + KINDS[kind], x.need(kind, 0, 0), need[kind], 0);
            Check.due(x, "with NEED, " + KINDS[kind], x.minutes(kind, 0, 0, need[kind]),
                BASE[kind], 0);
            Check.due(x, "with one less than twice NEED, " + KINDS[kind],
                x.minutes(kind, 0, 0, 2 * need[kind] - 1), half + (kind == WALKED ? 2 : 1), 0);
            Check.due(x, "with twice NEED, " + KINDS[kind], x.minutes(kind, 0, 0, 2 * need[kind]),
                half, 0);
            Check.due(x, "with one more, " + KINDS[kind], x.minutes(kind, 0, 0, 2 * need[kind] + 1),
                half, 0);
            Check.due(x, "with 200, " + KINDS[kind], x.minutes(kind, 0, 0, 200), half, 0);
        }
    }

    /** "walked 2 times s without sign, and 10 less edge if that is above 0". */
    private static void chanceWalked() {
        for (int edge = 0; edge <= 20; edge++) {
            StoneWalk x = one(1, 10, edge);
            int more = edge < 10 ? 10 - edge : 0;
            for (int s = -20; s <= 20; s++) {
                int due = 2 * (s < 0 ? -s : s) + more;
                Check.due(x, "chance with edge " + edge + " on " + s, x.chance(WALKED, 0, s), due, 0);
            }
        }
        StoneWalk y = one(1, 10, 10);
        Check.due(y, "edge 10 on the level", y.chance(WALKED, 0, 0), 0, 0);
        StoneWalk z = one(1, 10, 0);
        Check.due(z, "the greatest", z.chance(WALKED, 0, -20), 50, 0);
    }

    /** "sled s without sign; rolled 3 times that; dragged 0; 100 at most". */
    private static void chanceOfOthers() {
        StoneWalk x = one(1, 10, 0);
        for (int s : new int[] {-20, -19, -1, 0, 1, 19, 20}) {
            int steep = s < 0 ? -s : s;
            Check.due(x, "by sled on " + s, x.chance(SLED, 0, s), steep, 0);
            Check.due(x, "rolled on " + s, x.chance(ROLLED, 0, s), 3 * steep, 0);
            Check.due(x, "dragged on " + s, x.chance(DRAGGED, 0, s), 0, 0);
        }
    }

    /** LYING: "down", "level", "up" part at -1, 0, 1. */
    private static void lyingByTheSlope() {
        int[][] down = {{8, 1, 1}, {2, 2, 6}, {3, 2, 5}, {6, 3, 1}};
        int[][] level = {{4, 4, 2}, {2, 2, 6}, {2, 3, 5}, {5, 4, 1}};
        int[][] up = {{2, 7, 1}, {2, 2, 6}, {2, 3, 5}, {5, 4, 1}};
        StoneWalk x = one(1, 1, 1);
        for (int kind = 0; kind < 4; kind++) {
            for (int s : new int[] {-20, -2, -1, 0, 1, 2, 20}) {
                int[] due = (s < 0 ? down : s == 0 ? level : up)[kind];
                for (int lie = 0; lie <= 2; lie++) {
                    Check.due(x, "lying(" + kind + ", " + s + ", " + lie + ")",
                        x.lying(kind, s, lie), due[lie], 0);
                }
            }
        }
    }

    /** Promise 13: "the first such". */
    private static void easiestFirst() {
        String ways = "way g dragged weighs 1 pull 3;way l sled weighs 1 pull 2;"
            + "way k rolled weighs 1 pull 1;way w walked weighs 1 pull 1;";
        String roads = "road r hollow 1 slopes up 0;road q hollow 1 slopes up 1;road p hollow 1 slopes ";
        // 10 by each of them.
        StoneWalk x = Check.told(ways + roads + "up 4" + statue('a', 1, 10, 10));
        Check.due(x, "the first of four", x.easiest(0, 0), 0, 0);
        Check.due(x, "the first of four, up", x.easiest(0, 1), 0, 0);
        StoneWalk y = Check.told(ways + roads + "up 4" + statue('a', 21, 10, 10));
        Check.due(y, "the first of three", y.easiest(0, 0), 1, 0);
        StoneWalk z = Check.told(ways.replace("pull 3", "pull 2") + roads + "up 4"
            + statue('a', 1, 10, 10));
        Check.due(z, "the first of the least", z.easiest(0, 0), 1, 0);
        StoneWalk u = Check.told(ways.replace("walked weighs 1 pull 1", "walked weighs 1 pull 20")
            + roads + "up 4" + statue('a', 1, 10, 10));
        Check.due(u, "the last", u.easiest(0, 0), 3, 0);
    }

    /** Promise 13: "all along a ROAD"; "-2 if none CAN". */
    private static void easiestAllAlong() {
        String ways = "way k rolled weighs 1 pull 20;way l sled weighs 1 pull 1;";
        String[] roads = {"up 5", "up 6", "up 5,up 6", "up 6,up 5", "up 1,up 1,up 1,up 1,up 1,up 6",
            "down 3", "down 4", "up 8", "up 9", "down 6", "down 7", "up 1,up 9", "up 9,up 1",
            "up 1,up 1,up 1,up 1,up 1,down 7"};
        int[] due = {0, 1, 1, 1, 1, 0, 1, 1, -2, 1, -2, -2, -2, -2};
        for (int i = 0; i < roads.length; i++) {
            StoneWalk x = Check.told(ways + "road r hollow 1 slopes " + roads[i]
                + statue('a', 30, 1, 1));
            Check.due(x, "easiest() along " + roads[i], x.easiest(0, 0), due[i], 0);
        }
    }

    /** Promise 13: "(the most of its SLOPES)". */
    private static void easiestByTheMost() {
        // On the level 4 and 4, up 2: 5 and 4, up 8: 6 and 5.
        String ways = "way l sled weighs 1 pull 5;way m sled weighs 1 pull 6;";
        String[] roads = {"up 0", "down 6", "up 8", "up 0,up 8,up 0", "up 8,down 6", "down 6,up 8",
            "up 0,down 1"};
        int[] due = {0, 0, 1, 1, 1, 1, 0};
        for (int i = 0; i < roads.length; i++) {
            StoneWalk x = Check.told(ways + "road r hollow 1 slopes " + roads[i]
                + statue('a', 1, 1, 1));
            Check.due(x, "easiest() by the most of " + roads[i], x.easiest(0, 0), due[i], 0);
        }
    }

    /** NEED, MINUTES, CHANCE of a SLOPE on which it can't go: the document bounds them by s alone. */
    private static void toldWithoutGoing() {
        StoneWalk x = one(99, 0, 0);
        for (int s : new int[] {-20, 20}) {
            Check.due(x, "can on " + s, x.can(WALKED, 0, s), 0, 0);
            Check.due(x, "need on " + s, x.need(WALKED, 0, s), s > 0 ? 1980 : 990, 0);
            Check.due(x, "minutes on " + s, x.minutes(WALKED, 0, s, 1), s > 0 ? 79200 : 39600, 0);
            Check.due(x, "chance on " + s, x.chance(WALKED, 0, s), 50, 0);
        }
        Check.due(x, "the greatest need", x.need(DRAGGED, 0, 20), 5940, 0);
        Check.due(x, "the most minutes", x.minutes(DRAGGED, 0, 20, 1), 534600, 0);
    }
}
