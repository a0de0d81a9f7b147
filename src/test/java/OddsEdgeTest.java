/** ODDS of Term III, promises 22 to 31: a test of each sentence that names a bound or an edge. */
public final class OddsEdgeTest {
    private static final int WALKED = 0;
    private static final int SLED = 1;
    private static final String FOUR_WAYS =
        "way w walked weighs 1 pull 1;way l sled weighs 1 pull 1;"
        + "way k rolled weighs 1 pull 1;way g dragged weighs 1 pull 1";
    private static final String ROAD = ";road r hollow 2 slopes down 1,up 0,up 1";
    private static final String CUT = ";statue z tons 1 lean 30 edge 1 cut";

    public static void main(String[] args) {
        oddsOfNothing();
        oddsOfEachLying();
        oddsOfEachRoad();
        oddsOfEachTeller();
        oddsOfAll();
        oddsBeyondInt();
        likeliestFirst();
        liesByTheSlope();
        hollowOfThree();
        shapeOfFive();
        shapeIfSomeLieAndSomeStood();
        changedDownwards();
        changedOfNone();
        toldOfEach();
        turnStays();
        hangsFirst();
        hangsOnNone();
        hangsWithoutOne();
        hangsOutOfShape();
        hangsOnTheFirstOfTwo();
        tryoutFirst();
        tryoutGreaterOfTwo();
        tryoutByTheSlope();
        Check.end("OddsEdgeTest");
    }

    private static String lay(char name, int lean, String lie, int place) {
        return ";statue " + name + " tons 1 lean " + lean + " edge 1 lies " + lie + " on r at " + place;
    }

    private static String stood(char name, int lean) {
        return ";statue " + name + " tons 1 lean " + lean + " edge 1 stood";
    }

    private static void odds(String text, long... due) {
        StoneWalk x = Check.told(FOUR_WAYS + text);
        long all = 0;
        for (int way = 0; way < due.length; way++) {
            Check.due(x, "odds(" + way + ") of" + text, x.odds(way), due[way], 0);
            all += due[way];
        }
        Check.due(x, "odds(NONE) of" + text, x.odds(-1), all, 0);
    }

    /** None lies, none told: weighs times HOLLOW, and SHAPE is 1. */
    private static void oddsOfNothing() {
        odds(ROAD + CUT, 2, 9, 7, 4);
        odds(ROAD.replace("hollow 2", "hollow 3") + CUT, 8, 1, 3, 6);
    }

    /** "times the tenths of LYING of each statue that lies", and of no other. */
    private static void oddsOfEachLying() {
        odds(ROAD + lay('a', 1, "face", 0), 2 * 8, 9 * 2, 7 * 3, 4 * 6);
        odds(ROAD + lay('a', 1, "back", 1), 2 * 4, 9 * 2, 7 * 3, 4 * 4);
        odds(ROAD + lay('a', 1, "side", 2), 2 * 1, 9 * 6, 7 * 5, 4 * 1);
        odds(ROAD + lay('a', 1, "face", 0) + lay('b', 1, "back", 1) + lay('c', 1, "side", 2) + CUT,
            2 * 8 * 4, 9 * 2 * 2 * 6, 7 * 3 * 3 * 5, 4 * 6 * 4);
        odds(ROAD + CUT + ";statue a tons 1 lean 1 edge 1 large;statue b tons 1 lean 1 edge 1 buried"
            + ";statue c tons 1 lean 1 edge 1 tried" + stood('d', 1), 2, 9, 7, 4);
    }

    /** "times HOLLOW of each ROAD": of one, two and three. */
    private static void oddsOfEachRoad() {
        String two = ROAD + ";road q hollow 3 slopes up 1";
        odds(two + CUT, 2 * 8, 9, 7 * 3, 4 * 6);
        odds(two + ";road p hollow 0 slopes up 1" + CUT, 2 * 8 * 2, 9 * 9, 7 * 3 * 7, 4 * 6 * 4);
    }

    /** "times TOLD of each teller": of none, one and three. */
    private static void oddsOfEachTeller() {
        String one = ROAD + CUT + ";teller o year 0 means w";
        odds(one, 2 * 6, 9 * 4, 7 * 4, 4 * 4);
        odds(one + ";teller p year 999 means l,k stranger;teller q year 1 means g,l",
            2 * 6 * 5 * 4, 9 * 4 * 5 * 6, 7 * 4 * 5 * 4, 4 * 4 * 5 * 6);
    }

    /** Promise 22: "(NONE: of all together)": of one way, too. */
    private static void oddsOfAll() {
        StoneWalk x = Check.told("way l sled weighs 99 pull 1" + ROAD + CUT);
        Check.due(x, "odds(0)", x.odds(0), 891, 0);
        Check.due(x, "odds(NONE)", x.odds(StoneWalk.NONE), 891, 0);
        Check.due(x, "odds(1)", x.odds(1), -1, Check.NO_SUCH);
        Check.due(x, "odds(-2)", x.odds(-2), -1, Check.NO_SUCH);
        StoneWalk y = Check.told(FOUR_WAYS + ROAD + CUT);
        Check.due(y, "odds(3)", y.odds(3), 4, 0);
        Check.due(y, "odds(4)", y.odds(4), -1, Check.NO_SUCH);
    }

    /** The most that an ISLAND can have: 8 that lie, 3 roads, SHAPE 9, 3 tellers, of 4 ways. */
    private static void oddsBeyondInt() {
        StringBuilder text = new StringBuilder("way w walked weighs 99 pull 1");
        text.append(";way v walked weighs 99 pull 1;way u walked weighs 99 pull 1");
        text.append(";way x walked weighs 99 pull 1;road r hollow 9 slopes down 20");
        text.append(";road q hollow 3 slopes up 1;road p hollow 3 slopes up 1").append(stood('s', 0));
        for (char name = 'a'; name < 'i'; name++) {
            text.append(lay(name, 30, "face", 0));
        }
        for (char name = 'i'; name < 'l'; name++) {
            text.append(";teller ").append(name).append(" year 1 means w,v,u,x");
        }
        StoneWalk x = Check.told(text.toString());
        long due = 99L * 16777216 * 512 * 9 * 216;
        for (int way = 0; way < 4; way++) {
            Check.due(x, "the most odds of way " + way, x.odds(way), due, 0);
        }
        Check.due(x, "the most odds of all", x.odds(-1), 4 * due, 0);
        Check.due(x, "likeliest() of the most", x.likeliest(), 0, 0);
    }

    /** Promise 23: "the first such". */
    private static void likeliestFirst() {
        int[][] weighs = {{1, 1, 1, 1}, {1, 2, 2, 1}, {1, 1, 1, 2}, {2, 1, 1, 2}, {1, 2, 3, 3}};
        int[] due = {0, 1, 3, 0, 2};
        for (int i = 0; i < due.length; i++) {
            StringBuilder text = new StringBuilder();
            for (int way = 0; way < 4; way++) {
                text.append("way ").append((char) ('k' + way)).append(" sled weighs ");
                text.append(weighs[i][way]).append(" pull 1;");
            }
            StoneWalk x = Check.told(text + ROAD.substring(1) + CUT);
            Check.due(x, "likeliest() " + i, x.likeliest(), due[i], 0);
        }
        StoneWalk one = Check.told("way l sled weighs 1 pull 1" + ROAD + CUT);
        Check.due(one, "likeliest() of one", one.likeliest(), 0, 0);
    }

    /** Promise 24: "1 (one that doesn't, too)"; by the SLOPE where it lies. */
    private static void liesByTheSlope() {
        int[][][] due = {
            {{8, 1, 1}, {4, 4, 2}, {2, 7, 1}}, {{2, 2, 6}, {2, 2, 6}, {2, 2, 6}},
            {{3, 2, 5}, {2, 3, 5}, {2, 3, 5}}, {{6, 3, 1}, {5, 4, 1}, {5, 4, 1}},
        };
        String[] lies = {"face", "back", "side"};
        for (int place = 0; place < 3; place++) {
            for (int lie = 0; lie < 3; lie++) {
                StoneWalk x = Check.told(FOUR_WAYS + ROAD + CUT + lay('a', 1, lies[lie], place));
                for (int way = 0; way < 4; way++) {
                    Check.due(x, "lies(" + way + ", 1) " + lies[lie] + " at " + place,
                        x.lies(way, 1), due[way][place][lie], 0);
                    Check.due(x, "lies(" + way + ", 0)", x.lies(way, 0), -1, Check.NO_SUCH);
                    Check.due(x, "lies(" + way + ", 2)", x.lies(way, 2), -1, Check.NO_SUCH);
                }
            }
        }
        String[] sorts = {"cut", "large", "buried", "stood", "tried"};
        for (String sort : sorts) {
            StoneWalk x = Check.told(FOUR_WAYS + ROAD + ";statue a tons 1 lean 1 edge 1 " + sort);
            Check.due(x, "lies() of one " + sort, x.lies(0, 0), -1, Check.NO_SUCH);
            Check.no(x, "turn() of one " + sort, x.turn(0, 0), Check.NOT_SO);
        }
    }

    /** HOLLOW: "of 3 or more ..; below 3: 10 less these". */
    private static void hollowOfThree() {
        int[] deep = {8, 1, 3, 6};
        for (int hollow = 0; hollow <= 9; hollow++) {
            StoneWalk x = Check.told(FOUR_WAYS + ";road r hollow " + hollow + " slopes up 1" + CUT);
            for (int way = 0; way < 4; way++) {
                Check.due(x, "hollow(" + way + ", 0) of " + hollow, x.hollow(way, 0),
                    hollow < 3 ? 10 - deep[way] : deep[way], 0);
            }
        }
    }

    private static void leans(String statues, int change, int walked, int others) {
        StoneWalk x = Check.told(FOUR_WAYS + ROAD + statues);
        Check.due(x, "changed() of" + statues, x.changed(), change, change == -1000 ? 6 : 0);
        for (int way = 0; way < 4; way++) {
            Check.due(x, "shape(" + way + ") of" + statues, x.shape(way),
                way == WALKED ? walked : others, 0);
        }
    }

    /** SHAPE: "of 5 or more walked 9, others 3; below walked 2, others 6". */
    private static void shapeOfFive() {
        for (int lean = 0; lean <= 30; lean++) {
            int change = lean - 10;
            leans(lay('a', lean, "face", 0) + stood('b', 10), change, change >= 5 ? 9 : 2,
                change >= 5 ? 3 : 6);
        }
        leans(lay('a', 30, "face", 0) + stood('b', 0), 30, 9, 3);
        leans(lay('a', 0, "face", 0) + stood('b', 30), -30, 2, 6);
        leans(lay('a', 7, "face", 0) + stood('b', 7), 0, 2, 6);
    }

    /** SHAPE: "if some lie and some stood: ..; else 1". */
    private static void shapeIfSomeLieAndSomeStood() {
        leans(lay('a', 30, "face", 0), -1000, 1, 1);
        leans(stood('a', 30), -1000, 1, 1);
        leans(CUT, -1000, 1, 1);
        leans(lay('a', 30, "face", 0) + CUT, -1000, 1, 1);
        leans(stood('a', 30) + CUT, -1000, 1, 1);
        String others = ";statue c tons 1 lean 30 edge 1 cut;statue d tons 1 lean 30 edge 1 large"
            + ";statue e tons 1 lean 30 edge 1 buried;statue f tons 1 lean 30 edge 1 tried";
        leans(others, -1000, 1, 1);
        leans(others + lay('a', 0, "face", 0), -1000, 1, 1);
        leans(others + stood('b', 0), -1000, 1, 1);
        leans(others + lay('a', 6, "face", 0) + stood('b', 1), 5, 9, 3);
    }

    /** "the mean lean of those that lie less that of those that stood (each downwards)". */
    private static void changedDownwards() {
        // 5.5 and 0; 5 and 0.5; 5.5 and 0.5; 5.67 and 0.67; 5.33 and 1.
        leans(lay('a', 5, "face", 0) + lay('b', 6, "face", 0) + stood('c', 0), 5, 9, 3);
        leans(lay('a', 5, "face", 0) + stood('b', 0) + stood('c', 1), 5, 9, 3);
        leans(lay('a', 5, "face", 0) + lay('b', 6, "face", 0) + stood('c', 0) + stood('d', 1), 5, 9, 3);
        leans(lay('a', 5, "face", 0) + lay('b', 6, "face", 0) + lay('c', 6, "side", 1) + stood('d', 0)
            + stood('e', 1) + stood('f', 1), 5, 9, 3);
        leans(lay('a', 5, "face", 0) + lay('b', 5, "face", 0) + lay('c', 6, "side", 1) + stood('d', 1),
            4, 2, 6);
        // 4.5 less 10 is -6 of the wholes, and 0 less 0.5 is 0.
        leans(lay('a', 4, "face", 0) + lay('b', 5, "face", 0) + stood('c', 10), -6, 2, 6);
        leans(lay('a', 0, "face", 0) + stood('b', 0) + stood('c', 1), 0, 2, 6);
    }

    /** Promise 27: "-1,000: 1 (no ISLAND); 6 (none lie, or none stood)". */
    private static void changedOfNone() {
        StoneWalk x = new StoneWalk();
        Check.due(x, "changed() without an island", x.changed(), -1000, Check.NO_SUCH);
        Check.tell(x, FOUR_WAYS + ROAD + CUT);
        Check.due(x, "changed() of none", x.changed(), -1000, Check.NOTHING);
        Check.tell(x, FOUR_WAYS + ROAD + stood('a', 3));
        Check.due(x, "changed() of one that stood", x.changed(), -1000, Check.NOTHING);
        Check.tell(x, FOUR_WAYS + ROAD + lay('a', 3, "face", 0));
        Check.due(x, "changed() of one that lies", x.changed(), -1000, Check.NOTHING);
        Check.tell(x, FOUR_WAYS + ROAD + lay('a', 3, "face", 0) + stood('b', 3));
        Check.due(x, "changed() of both", x.changed(), 0, 0);
    }

    /** TOLD: "of a stranger 5; else 6 if it means the WAY, 4 if not". */
    private static void toldOfEach() {
        String[] names = {"w", "l", "k", "g"};
        for (int bits = 1; bits < 16; bits++) {
            StringBuilder means = new StringBuilder();
            for (int way = 0; way < 4; way++) {
                if ((bits >> way & 1) == 1) {
                    means.append(means.length() == 0 ? "" : ",").append(names[way]);
                }
            }
            StoneWalk x = Check.told(FOUR_WAYS + ROAD + CUT + ";teller o year 1 means " + means
                + ";teller p year 1 means " + means + " stranger");
            for (int way = 0; way < 4; way++) {
                Check.due(x, "told(" + way + ", 0) of " + means, x.told(way, 0),
                    (bits >> way & 1) == 1 ? 6 : 4, 0);
                Check.due(x, "told(" + way + ", 1) of " + means, x.told(way, 1), 5, 0);
            }
            Check.due(x, "told(4, 0)", x.told(4, 0), -1, Check.NO_SUCH);
            Check.due(x, "told(0, 2)", x.told(0, 2), -1, Check.NO_SUCH);
            Check.due(x, "told(31, 0)", x.told(31, 0), -1, Check.NO_SUCH);
            Check.due(x, "told(32, 0)", x.told(32, 0), -1, Check.NO_SUCH);
        }
    }

    /** Promise 29: "LIE 0 .. 2"; "lies so from now on". */
    private static void turnStays() {
        StoneWalk x = Check.told(FOUR_WAYS + ROAD + CUT + lay('a', 1, "face", 0));
        for (int lie : new int[] {2, 1, 0, 0, 1, 2}) {
            Check.yes(x, "turn(1, " + lie + ")", x.turn(1, lie));
            Check.due("how it lies", x.statue(1, 4), lie);
            Check.due("on which road", x.statue(1, 5), 0);
            Check.due("where", x.statue(1, 6), 0);
            Check.due(x, "lies(0, 1)", x.lies(WALKED, 1), lie == 0 ? 8 : 1, 0);
            Check.due(x, "lies(1, 1)", x.lies(SLED, 1), lie == 2 ? 6 : 2, 0);
            Check.due(x, "odds(0)", x.odds(WALKED), 2 * (lie == 0 ? 8 : 1), 0);
            for (int none : new int[] {-1, 3, Integer.MIN_VALUE, Integer.MAX_VALUE}) {
                Check.no(x, "turn(1, " + none + ")", x.turn(1, none), Check.NO_SUCH);
            }
            Check.no(x, "turn(0, 0)", x.turn(0, 0), Check.NOT_SO);
            Check.no(x, "turn(2, 0)", x.turn(2, 0), Check.NO_SUCH);
            Check.due("how it lies still", x.statue(1, 4), lie);
            Check.due("how the other one lies", x.statue(0, 4), -2);
        }
    }

    private static void hangs(String what, String text, int due) {
        StoneWalk x = Check.told(text);
        long all = x.odds(-1);
        int likeliest = x.likeliest();
        Check.due(x, "hangs() " + what, x.hangs(), due, 0);
        // Each stays.
        Check.due(x, "odds(NONE) behind hangs()", x.odds(-1), all, 0);
        Check.due(x, "likeliest() behind hangs()", x.likeliest(), likeliest, 0);
        Check.due(x, "hangs() again, " + what, x.hangs(), due, 0);
    }

    private static String two(int walked, int sled) {
        return "way w walked weighs " + walked + " pull 1;way l sled weighs " + sled + " pull 1" + ROAD;
    }

    /** Promise 30: "the first such": of two that would, whatever stands between. */
    private static void hangsFirst() {
        // Walked 2 w, by sled 9 s; face down: 8 to 2, side up: 1 to 6.
        hangs("on the one", two(5, 1) + lay('a', 1, "side", 2), 0);
        hangs("not on the one", two(4, 1) + lay('a', 1, "side", 2), -2);
        hangs("on the one behind another sort", two(5, 1) + CUT + lay('a', 1, "side", 2), 1);
        // 2 times 36, 9 times 9: sled; without a, 2 times 36 and 9 times 2.
        hangs("on the second", two(90, 1) + lay('c', 1, "back", 0) + lay('a', 1, "side", 2)
            + lay('b', 1, "side", 2), 1);
        hangs("on the first of two", two(90, 2) + lay('a', 1, "side", 2) + CUT
            + lay('b', 1, "side", 2), 0);
    }

    /** Promise 30: "-2 if there is none": none lies, one WAY only, one far ahead. */
    private static void hangsOnNone() {
        hangs("if none lies", two(1, 1) + CUT, -2);
        hangs("of one way", "way l sled weighs 1 pull 1" + ROAD + lay('a', 1, "face", 0), -2);
        hangs("of a far lead", two(99, 1) + lay('a', 1, "face", 0) + lay('b', 1, "face", 0), -2);
        hangs("of a far lead of the other", two(1, 99) + lay('a', 1, "side", 2), -2);
        hangs("of those that stood", two(1, 1) + stood('a', 30) + stood('b', 0), -2);
    }

    /** "if it were left out", the others stay. */
    private static void hangsWithoutOne() {
        // Walked 128 w, by sled 36 s; without one 16 w and 18 s; without both 2 w and 9 s.
        String pair = lay('a', 1, "face", 0) + lay('b', 1, "face", 0);
        hangs("on either", two(9, 30) + pair, 0);
        hangs("on either by little", two(9, 9) + pair, 0);
        hangs("on neither, alike", two(9, 8) + pair, -2);
        hangs("on neither", two(9, 7) + pair, -2);
    }

    /** "(of SHAPE, too)": by the mean of the rest, and of none. */
    private static void hangsOutOfShape() {
        // By 10: walked 2 times 9 times 4, by sled 9 times 3 times 2; without a 2 to 9.
        hangs("of one that lies", two(1, 1) + stood('s', 10) + lay('a', 20, "face", 1), 1);
        hangs("ahead of one that stood", two(1, 1) + lay('a', 20, "face", 1) + stood('s', 10), 0);
        // By 5 walked 288, by sled 108; without b by 10: 72 and 54; without a by 0: 16 and 108.
        hangs("on the mean", two(1, 1) + stood('s', 10) + lay('b', 10, "face", 1)
            + lay('a', 20, "face", 1), 2);
        hangs("on the mean of the rest", two(1, 1) + stood('s', 10) + lay('a', 20, "face", 1)
            + lay('b', 10, "face", 1), 1);
    }

    /** Another WAY is likeliest, if those left are alike: the first of them counts. */
    private static void hangsOnTheFirstOfTwo() {
        // Without a walked 18 and by sled 18: the first, walked; it was sled.
        hangs("on a draw", two(9, 2) + lay('a', 1, "side", 2), 0);
        // The other way round nothing changes.
        hangs("not on a draw", two(9, 2) + lay('a', 1, "face", 0), -2);
    }

    private static String thing(char name, int tons, int lean, int edge, String slope) {
        return ";try " + name + " tons " + tons + " lean " + lean + " edge " + edge + " " + slope;
    }

    private static void tryout(String what, String things, int due) {
        StoneWalk x = Check.told("way w walked weighs 27 pull 1;way l sled weighs 3 pull 1;"
            + "way g dragged weighs 4 pull 1" + ROAD + CUT + things);
        // Walked 54, by sled 27, dragged 16: 97 in all.
        Check.due(x, "odds(NONE)", x.odds(-1), 97, 0);
        Check.due(x, "tryout() " + what, x.tryout(), due, due == -1 ? Check.NOTHING : 0);
    }

    private static final String ALL = "tons 20 lean 16 edge 3 up 8";

    /** TRY: "the first such"; "6 (nothing may be tried)". */
    private static void tryoutFirst() {
        tryout("of nothing", "", -1);
        tryout("of one", thing('p', 20, 16, 3, "up 8"), 0);
        tryout("of one that none carries", thing('p', 21, 0, 0, "up 9"), 0);
        // All (97) and none (97) are alike.
        tryout("of all and none", ";try p " + ALL + thing('q', 21, 0, 0, "up 9"), 0);
        tryout("of none and all", thing('q', 21, 0, 0, "up 9") + ";try p " + ALL, 0);
        tryout("of five alike", ";try p " + ALL + ";try q " + ALL + ";try m " + ALL + ";try n " + ALL
            + ";try o " + ALL, 0);
    }

    /** TRY: "the greater one of (..) is least". */
    private static void tryoutGreaterOfTwo() {
        // By sled and dragged 43, walked not: 54.
        String notWalked = thing('q', 20, 16, 2, "up 8");
        // Walked alone: 54 of 97.
        String walked = thing('m', 21, 24, 3, "up 9");
        // Walked and by sled, not dragged: 81.
        String notDragged = thing('n', 21, 16, 3, "up 8");
        // Walked and dragged, not by sled: 70.
        String notSled = thing('o', 20, 24, 3, "up 9");
        tryout("of all five", ";try p " + ALL + notDragged + notSled + notWalked + walked, 3);
        tryout("of all five the other way", walked + notWalked + notSled + notDragged + ";try p " + ALL, 0);
        tryout("of 81 and 70", notDragged + notSled, 1);
        tryout("of 70 and 81", notSled + notDragged, 0);
        tryout("of 97 and 81", ";try p " + ALL + notDragged, 1);
        tryout("of two with 54", ";try p " + ALL + notWalked + walked, 1);
    }

    /** TRY: "by which it CAN" on its own SLOPE. */
    private static void tryoutByTheSlope() {
        // Walked up 8 or down 4 by this lean.
        String fine = thing('p', 21, 16, 3, "up 8");
        tryout("up 8 and 9", thing('q', 21, 16, 3, "up 9") + fine, 1);
        // Down 5: by sled alone, 70; down 4: walked and by sled, 81.
        tryout("down 5 and 4", thing('q', 21, 16, 3, "down 4") + thing('m', 21, 16, 3, "down 5"), 1);
        // Down 6: by sled; down 7: by none.
        tryout("down 7 and 6", thing('q', 21, 16, 3, "down 7") + thing('m', 21, 16, 3, "down 6"), 1);
        // Dragged up 12, 81; up 13 by none; down 20 dragged.
        tryout("up 13 and 12", thing('q', 20, 0, 0, "up 13") + thing('m', 20, 0, 0, "up 12"), 1);
        tryout("up 20 and down 20", thing('q', 20, 0, 0, "up 20") + thing('m', 20, 0, 0, "down 20"), 1);
    }
}
