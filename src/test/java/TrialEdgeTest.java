/** TRIALS and WOOD of Term III, promises 32 to 36: a test of each sentence that names a bound or an edge. */
public final class TrialEdgeTest {
    private static final String WAYS =
        "way w walked weighs 1 pull 10;way l sled weighs 1 pull 10;way k rolled weighs 1 pull 10;"
        + "way g dragged weighs 1 pull 10";
    private static final String ROADS =
        ";road r hollow 1 slopes up 1,up 1,up 1;road q hollow 1 slopes up 1,up 1,up 1,up 1,up 1,up 1";
    private static final String CUT = ";statue z tons 1 lean 1 edge 1 cut";
    private static final String ISLAND = WAYS + ROADS + CUT;

    public static void main(String[] args) {
        tonsBounds();
        peopleUpwards();
        leastOrGreatest();
        fourTimesTheGreatest();
        fourTimesOfItsOwnWay();
        noTrial();
        yardsBounds();
        minutesUpwards();
        minutesWhateverTheTons();
        offByNeed();
        offOnALevel();
        woodOfThoseThatLie();
        woodOfThoseThatStood();
        woodOfNone();
        tenOfATree();
        enoughWithoutLand();
        Check.end("TrialEdgeTest");
    }

    private static String trial(char name, String way, int tons, int people, int yards, int minutes) {
        return ";trial " + name + " of " + way + " tons " + tons + " people " + people + " yards "
            + yards + " minutes " + minutes;
    }

    private static void both(StoneWalk x, int way, int tons, int least, int greatest, int trouble) {
        String call = "people(" + way + ", " + tons + ", ";
        Check.due(x, call + "false)", x.people(way, tons, false), least, trouble);
        Check.due(x, call + "true)", x.people(way, tons, true), greatest, trouble);
    }

    /** Promise 32: "tons (1 .. 400)". */
    private static void tonsBounds() {
        StoneWalk x = Check.told(ISLAND + trial('t', "w", 99, 99, 1, 1));
        for (int tons : new int[] {1, 2, 395, 396}) {
            both(x, 0, tons, tons, tons, 0);
        }
        for (int tons : new int[] {397, 399, 400}) {
            both(x, 0, tons, -1, -1, Check.NOTHING);
        }
        for (int tons : new int[] {0, -1, 401, Integer.MIN_VALUE, Integer.MAX_VALUE}) {
            both(x, 0, tons, -1, -1, Check.NUMBER);
        }
        // Ahead of 6: a way without a trial.
        both(x, 1, 0, -1, -1, Check.NUMBER);
        both(x, 1, 401, -1, -1, Check.NUMBER);
        both(x, 1, 400, -1, -1, Check.NOTHING);
        both(x, 4, 401, -1, -1, Check.NO_SUCH);
    }

    /** "tons times people by tons of a trial, upwards". */
    private static void peopleUpwards() {
        StoneWalk x = Check.told(ISLAND + trial('t', "w", 7, 3, 1, 1));
        int[] due = {1, 1, 2, 2, 3, 3, 3, 4, 4, 5, 5, 6, 6, 6, 7};
        for (int tons = 1; tons <= due.length; tons++) {
            both(x, 0, tons, due[tons - 1], due[tons - 1], 0);
        }
        both(x, 0, 28, 12, 12, 0);
        both(x, 0, 29, -1, -1, Check.NOTHING);
    }

    /** "the least, or greatest", of the trials of this WAY, wherever they stand. */
    private static void leastOrGreatest() {
        String a = trial('t', "w", 10, 20, 1, 1);
        String b = trial('u', "w", 10, 30, 1, 1);
        String c = trial('v', "w", 10, 25, 1, 1);
        String other = trial('x', "l", 10, 1, 1, 1) + trial('y', "k", 10, 200, 1, 1);
        for (String text : new String[] {a + b + c, c + b + a, b + a + c, b + c + a, c + a + b}) {
            both(Check.told(ISLAND + text), 0, 10, 20, 30, 0);
            StoneWalk x = Check.told(ISLAND + text + other);
            both(x, 0, 10, 20, 30, 0);
            both(x, 1, 10, 1, 1, 0);
            both(x, 2, 10, 200, 200, 0);
            both(x, 3, 10, -1, -1, Check.NOTHING);
        }
        StoneWalk y = Check.told(ISLAND + trial('t', "w", 99, 200, 1, 1) + trial('u', "w", 1, 200, 1, 1));
        both(y, 0, 396, 800, 79200, 0);
    }

    /** "none if .. tons are more than 4 times those of the greatest". */
    private static void fourTimesTheGreatest() {
        for (int tons : new int[] {1, 2, 25, 98, 99}) {
            StoneWalk x = Check.told(ISLAND + trial('t', "w", tons, 1, 1, 1));
            both(x, 0, 4 * tons, 4, 4, 0);
            both(x, 0, 4 * tons + 1, -1, -1, Check.NOTHING);
        }
        String few = trial('t', "w", 3, 9, 1, 1);
        String many = trial('u', "w", 5, 9, 1, 1);
        for (String text : new String[] {few + many, many + few}) {
            StoneWalk x = Check.told(ISLAND + text);
            both(x, 0, 20, 36, 60, 0);
            both(x, 0, 21, -1, -1, Check.NOTHING);
        }
    }

    /** A heavier trial of another WAY doesn't count. */
    private static void fourTimesOfItsOwnWay() {
        StoneWalk x = Check.told(ISLAND + trial('t', "w", 1, 1, 1, 1) + trial('u', "l", 99, 1, 1, 1));
        both(x, 0, 4, 4, 4, 0);
        both(x, 0, 5, -1, -1, Check.NOTHING);
        both(x, 1, 396, 4, 4, 0);
        both(x, 1, 397, -1, -1, Check.NOTHING);
    }

    /** "none if there is no trial": people and minutes. */
    private static void noTrial() {
        StoneWalk x = Check.told(ISLAND);
        StoneWalk y = Check.told(ISLAND + trial('t', "k", 1, 1, 1, 1));
        for (int way = 0; way < 4; way++) {
            both(x, way, 1, -1, -1, Check.NOTHING);
            Check.due(x, "takes() without a trial", x.takes(way, 1, true), -1, Check.NOTHING);
            Check.due(x, "off() without a trial", x.off(0), -1000, Check.NO_SUCH);
            int due = way == 2 ? 1 : -1;
            both(y, way, 1, due, due, way == 2 ? 0 : Check.NOTHING);
            Check.due(y, "takes() by way " + way, y.takes(way, 1, false), due,
                way == 2 ? 0 : Check.NOTHING);
        }
    }

    private static void takes(StoneWalk x, int way, int yards, int least, int greatest, int trouble) {
        String call = "takes(" + way + ", " + yards + ", ";
        Check.due(x, call + "false)", x.takes(way, yards, false), least, trouble);
        Check.due(x, call + "true)", x.takes(way, yards, true), greatest, trouble);
    }

    /** Promise 33: "yards (1 .. 9,999)". */
    private static void yardsBounds() {
        StoneWalk x = Check.told(ISLAND + trial('t', "w", 1, 1, 1, 999));
        takes(x, 0, 1, 999, 999, 0);
        takes(x, 0, 9999, 9989001, 9989001, 0);
        for (int yards : new int[] {0, -1, 10000, Integer.MIN_VALUE, Integer.MAX_VALUE}) {
            takes(x, 0, yards, -1, -1, Check.NUMBER);
            // Ahead of 6, behind 1.
            takes(x, 1, yards, -1, -1, Check.NUMBER);
            takes(x, 4, yards, -1, -1, Check.NO_SUCH);
        }
        takes(x, 1, 1, -1, -1, Check.NOTHING);
        takes(x, 1, 9999, -1, -1, Check.NOTHING);
    }

    /** "yards times minutes by yards, upwards, likewise". */
    private static void minutesUpwards() {
        StoneWalk x = Check.told(ISLAND + trial('t', "w", 1, 1, 7, 3) + trial('u', "w", 1, 1, 999, 1));
        int[] greatest = {1, 1, 2, 2, 3, 3, 3, 4, 4, 5};
        for (int yards = 1; yards <= greatest.length; yards++) {
            takes(x, 0, yards, 1, greatest[yards - 1], 0);
        }
        takes(x, 0, 999, 1, 429, 0);
        takes(x, 0, 1000, 2, 429, 0);
        takes(x, 0, 1001, 2, 429, 0);
        takes(x, 0, 1002, 2, 430, 0);
        StoneWalk y = Check.told(ISLAND + trial('u', "w", 1, 1, 999, 1) + trial('t', "w", 1, 1, 7, 3));
        takes(y, 0, 1002, 2, 430, 0);
    }

    /** "(tons of no matter)", and however far. */
    private static void minutesWhateverTheTons() {
        StoneWalk x = Check.told(ISLAND + trial('t', "w", 99, 200, 1, 1) + trial('u', "w", 1, 1, 1, 2)
            + trial('v', "l", 99, 1, 1, 999));
        takes(x, 0, 9999, 9999, 19998, 0);
        takes(x, 0, 1, 1, 2, 0);
        takes(x, 1, 1, 999, 999, 0);
    }

    /** Promise 34: "(above 0: more)". */
    private static void offByNeed() {
        // NEED of 7 tons with pull 10: 7, 14, 7, 21.
        String[] ways = {"w", "l", "k", "g"};
        int[] need = {7, 14, 7, 21};
        for (int way = 0; way < 4; way++) {
            for (int people : new int[] {1, need[way] - 1, need[way], need[way] + 1, 200}) {
                StoneWalk x = Check.told(ISLAND + trial('t', ways[way], 7, people, 1, 1));
                Check.due(x, "off(0) of " + need[way] + " and " + people, x.off(0), need[way] - people, 0);
                Check.due(x, "off(1)", x.off(1), -1000, Check.NO_SUCH);
                Check.due(x, "off(-1)", x.off(-1), -1000, Check.NO_SUCH);
            }
        }
        StringBuilder five = new StringBuilder(ISLAND);
        for (int i = 0; i < 5; i++) {
            five.append(trial((char) ('a' + i), "w", 10, 8 + i, 1, 1));
        }
        StoneWalk y = Check.told(five.toString());
        for (int i = 0; i < 5; i++) {
            Check.due(y, "off(" + i + ")", y.off(i), 2 - i, 0);
        }
        Check.due(y, "off(5)", y.off(5), -1000, Check.NO_SUCH);
        // -1,000 is never an answer: at least 1 less 200, at most 2,970 less 1.
        StoneWalk z = Check.told(ISLAND.replace("pull 10", "pull 1") + trial('t', "g", 99, 1, 1, 1)
            + trial('u', "w", 1, 200, 1, 1));
        Check.due(z, "off() of the most", z.off(0), 2969, 0);
        Check.due(z, "off() of the least", z.off(1), -190, 0);
    }

    /** Promise 34: "for a statue as heavy as a trial's on a level", upwards. */
    private static void offOnALevel() {
        StoneWalk x = Check.told(WAYS.replace("pull 10", "pull 7") + ROADS + CUT
            + trial('t', "w", 7, 10, 1, 1) + trial('u', "w", 8, 10, 1, 1));
        Check.due(x, "70 by 7", x.off(0), 0, 0);
        Check.due(x, "80 by 7", x.off(1), 2, 0);
    }

    private static String lay(char name, int tons, String road, int place) {
        return ";statue " + name + " tons " + tons + " lean 1 edge 1 lies back on " + road + " at " + place;
    }

    private static void wood(String statues, int ofATon) {
        StoneWalk x = Check.told(WAYS + ROADS + statues);
        int[] due = {0, 2, 4, 1};
        for (int way = 0; way < 4; way++) {
            Check.due(x, "wood(" + way + ") of" + statues, x.wood(way), due[way] * ofATon, 0);
        }
    }

    /** "of each that lies for as many SLOPES as are ahead of where it does": of the first none. */
    private static void woodOfThoseThatLie() {
        for (int place = 0; place < 3; place++) {
            wood(lay('a', 10, "r", place), 10 * place);
        }
        for (int place = 0; place < 6; place++) {
            wood(lay('a', 99, "q", place), 99 * place);
        }
        wood(lay('a', 10, "r", 2) + lay('b', 7, "q", 5) + lay('c', 99, "q", 0), 20 + 35);
        wood(lay('a', 99, "q", 5) + lay('b', 99, "q", 5) + lay('c', 99, "q", 5) + lay('d', 99, "q", 5)
            + lay('e', 99, "q", 5) + lay('f', 99, "q", 5) + lay('h', 99, "q", 5) + lay('i', 99, "q", 5),
            99 * 5 * 8);
    }

    /** "of each that stood for all SLOPES of the first ROAD". */
    private static void woodOfThoseThatStood() {
        wood(";statue a tons 10 lean 1 edge 1 stood", 30);
        wood(";statue a tons 10 lean 1 edge 1 stood;statue b tons 99 lean 1 edge 1 stood", 327);
        wood(";statue a tons 10 lean 1 edge 1 stood" + lay('b', 4, "q", 3), 42);
        StoneWalk x = Check.told(WAYS + ";road q hollow 1 slopes up 1"
            + ROADS.substring(0, ROADS.indexOf(";road q")) + ";statue a tons 10 lean 1 edge 1 stood");
        Check.due(x, "wood(3) of one slope", x.wood(3), 10, 0);
    }

    /** Neither of those that were cut, large, buried nor tried. */
    private static void woodOfNone() {
        wood(CUT, 0);
        wood(";statue a tons 99 lean 1 edge 1 large;statue b tons 99 lean 1 edge 1 buried"
            + ";statue c tons 99 lean 1 edge 1 tried;statue d tons 99 lean 1 edge 1 cut", 0);
    }

    /** "TREES give 10 each"; promise 36: whether they give that, just so or one too few. */
    private static void tenOfATree() {
        // Dragged 30, rolled 120, by sled 60, walked 0.
        String stood = ";statue a tons 10 lean 1 edge 1 stood";
        int[] need = {0, 6, 12, 3};
        for (int way = 0; way < 4; way++) {
            for (int trees : new int[] {0, 2, 3, 4, 5, 6, 7, 11, 12, 13, 999}) {
                StoneWalk x = Check.told(WAYS + ROADS + stood + ";land trees " + trees
                    + " grows 50 people 999");
                Check.due(x, "enough(" + way + ") of " + trees, x.enough(way),
                    trees >= need[way] ? 1 : 0, 0);
            }
        }
        // 31 want a fourth tree.
        StoneWalk y = Check.told(WAYS + ROADS + stood + lay('b', 1, "r", 1) + ";land trees 3 grows 1 people 1");
        Check.due(y, "wood(3)", y.wood(3), 31, 0);
        Check.due(y, "enough(3) of 3", y.enough(3), 0, 0);
        StoneWalk z = Check.told(WAYS + ROADS + stood + lay('b', 1, "r", 1) + ";land trees 4 grows 1 people 1");
        Check.due(z, "enough(3) of 4", z.enough(3), 1, 0);
    }

    /** Promise 36: "1; 6 (no land)": with fields and houses alone, too. */
    private static void enoughWithoutLand() {
        StoneWalk x = Check.told(ISLAND + ";fields 1 feeds 1;houses 1 holds 1 to 1;story s weighs 1 rats 1");
        for (int way = 0; way < 4; way++) {
            Check.due(x, "enough(" + way + ")", x.enough(way), -1, Check.NOTHING);
        }
        Check.due(x, "enough(4)", x.enough(4), -1, Check.NO_SUCH);
        Check.due(x, "enough(-1)", x.enough(-1), -1, Check.NO_SUCH);
    }
}
