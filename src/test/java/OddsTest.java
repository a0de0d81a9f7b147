/** Promises 22 to 31: which way it was, by the fallen, roads, shapes and tellers. */
public final class OddsTest {
    private static final String TELLERS = ";teller o year 722 means w"
        + ";teller p year 1 means l,g stranger;teller u year 9 means k,g";
    private static final String TWO_WAYS =
        "way w walked weighs 12 pull 1;way l sled weighs 10 pull 1;"
        + "road r hollow 2 slopes down 1,up 1";

    public static void main(String[] args) {
        odds();
        oddsWithTellers();
        mostOdds();
        likeliest();
        lies();
        hollow();
        shape();
        changed();
        told();
        turn();
        hangs();
        hangsByShape();
        tryout();
        withoutIsland();
        Check.end("OddsTest");
    }

    private static void odds() {
        StoneWalk x = Check.told(Check.WHOLE_ISLAND);
        Check.due(x, "odds(0)", x.odds(0), 50 * 8 * 7 * 8 * 2 * 8 * 9, 0);
        x.odds(9);
        Check.due(x, "odds(1)", x.odds(1), 30 * 2 * 2 * 9 * 3, 0);
        Check.due(x, "odds(2)", x.odds(2), 20 * 3 * 3 * 3 * 7 * 3 * 3, 0);
        Check.due(x, "odds(3)", x.odds(3), 10 * 6 * 4 * 6 * 4 * 6 * 3, 0);
        Check.due(x, "odds(NONE)", x.odds(-1), 3225600 + 3240 + 34020 + 103680, 0);
        Check.due(x, "odds(4)", x.odds(4), -1, Check.NO_SUCH);
        Check.due(x, "odds(-2)", x.odds(-2), -1, Check.NO_SUCH);
    }

    private static void oddsWithTellers() {
        StoneWalk x = Check.told(Check.WHOLE_ISLAND + TELLERS);
        Check.due(x, "odds(0)", x.odds(0), 3225600L * 6 * 5 * 4, 0);
        Check.due(x, "odds(1)", x.odds(1), 3240L * 4 * 5 * 4, 0);
        Check.due(x, "odds(2)", x.odds(2), 34020L * 4 * 5 * 6, 0);
        Check.due(x, "odds(3)", x.odds(3), 103680L * 4 * 5 * 6, 0);
    }

    /** More than an int holds. */
    private static void mostOdds() {
        StringBuilder text = new StringBuilder("way w walked weighs 99 pull 1");
        text.append(";road r hollow 9 slopes down 1;road q hollow 3 slopes up 1");
        text.append(";road p hollow 3 slopes up 1;statue s tons 1 lean 0 edge 1 stood");
        for (char name = 'a'; name < 'i'; name++) {
            text.append(";statue ").append(name).append(" tons 1 lean 9 edge 1 lies face on r at 0");
        }
        for (char name = 'i'; name < 'l'; name++) {
            text.append(";teller ").append(name).append(" year 1 means w");
        }
        StoneWalk x = Check.told(text.toString());
        long due = 99L * (1 << 24) * 512 * 9 * 216;
        Check.due(x, "odds(0)", x.odds(0), due, 0);
        Check.due(x, "odds(NONE)", x.odds(-1), due, 0);
        Check.due("size(10)", x.size(10), 8);
    }

    private static void likeliest() {
        StoneWalk x = Check.told(Check.WHOLE_ISLAND);
        Check.due(x, "likeliest()", x.likeliest(), 0, 0);
        x.turn(0, 2);
        x.turn(3, 2);
        // Walked 57,600; by sled 29,160; rolled 94,500; dragged 4,320.
        Check.due(x, "likeliest() of sides", x.likeliest(), 2, 0);
        StoneWalk y = Check.told("way l sled weighs 3 pull 1;way m sled weighs 4 pull 2;"
            + "way n sled weighs 4 pull 3;road r hollow 1 slopes up 1;"
            + "statue a tons 1 lean 1 edge 1 cut");
        Check.due(y, "the first of the likeliest", y.likeliest(), 1, 0);
    }

    private static void lies() {
        StoneWalk x = Check.told(Check.WHOLE_ISLAND);
        int[] a = {8, 2, 3, 6};
        int[] d = {7, 2, 3, 4};
        for (int way = 0; way < 4; way++) {
            Check.due(x, "lies(" + way + ", 0)", x.lies(way, 0), a[way], 0);
            Check.due(x, "lies(" + way + ", 3)", x.lies(way, 3), d[way], 0);
            Check.due(x, "lies(" + way + ", 1)", x.lies(way, 1), -1, Check.NO_SUCH);
        }
        Check.due(x, "lies(4, 0)", x.lies(4, 0), -1, Check.NO_SUCH);
        Check.due(x, "lies(0, 7)", x.lies(0, 7), -1, Check.NO_SUCH);
        Check.due(x, "lies(0, -1)", x.lies(0, -1), -1, Check.NO_SUCH);
    }

    private static void hollow() {
        StoneWalk x = Check.told(Check.WHOLE_ISLAND);
        int[] deep = {8, 1, 3, 6};
        for (int way = 0; way < 4; way++) {
            Check.due(x, "hollow(" + way + ", 0)", x.hollow(way, 0), deep[way], 0);
            Check.due(x, "hollow(" + way + ", 1)", x.hollow(way, 1), 10 - deep[way], 0);
            Check.due(x, "hollow(" + way + ", 2)", x.hollow(way, 2), deep[way], 0);
        }
        Check.due(x, "hollow(4, 0)", x.hollow(4, 0), -1, Check.NO_SUCH);
        Check.due(x, "hollow(0, 3)", x.hollow(0, 3), -1, Check.NO_SUCH);
        Check.due(x, "hollow(0, -1)", x.hollow(0, -1), -1, Check.NO_SUCH);
    }

    private static void leans(int change, String statues, int walked, int others) {
        StoneWalk x = Check.told(TWO_WAYS + ";way k rolled weighs 1 pull 1"
            + ";way g dragged weighs 1 pull 1" + statues);
        Check.due(x, "changed() of" + statues, x.changed(), change, change == -1000 ? 6 : 0);
        Check.due(x, "shape(0) of" + statues, x.shape(0), walked, 0);
        for (int way = 1; way < 4; way++) {
            Check.due(x, "shape(" + way + ") of" + statues, x.shape(way), others, 0);
        }
    }

    private static String lay(char name, int lean) {
        return ";statue " + name + " tons 1 lean " + lean + " edge 1 lies face on r at 0";
    }

    private static String stood(char name, int lean) {
        return ";statue " + name + " tons 1 lean " + lean + " edge 1 stood";
    }

    private static void shape() {
        leans(5, lay('a', 9) + stood('b', 4), 9, 3);
        leans(4, lay('a', 8) + stood('b', 4), 2, 6);
        leans(-30, lay('a', 0) + stood('b', 30), 2, 6);
        leans(30, lay('a', 30) + stood('b', 0), 9, 3);
        StoneWalk x = Check.told(Check.WHOLE_ISLAND);
        Check.due(x, "shape(4)", x.shape(4), -1, Check.NO_SUCH);
        Check.due(x, "shape(-1)", x.shape(-1), -1, Check.NO_SUCH);
    }

    private static void changed() {
        // 9.67 and 4.5, each downwards.
        leans(5, lay('a', 9) + lay('b', 10) + lay('c', 10) + stood('e', 4) + stood('f', 5), 9, 3);
        // 9.5 and 4.67: by 4.83, but by 5 of the wholes.
        leans(5, lay('a', 9) + lay('b', 10) + stood('e', 4) + stood('f', 5) + stood('h', 5), 9, 3);
        leans(-1000, lay('a', 9) + ";statue b tons 1 lean 1 edge 1 cut", 1, 1);
        leans(-1000, stood('a', 9) + ";statue b tons 1 lean 1 edge 1 tried", 1, 1);
        leans(-1000, ";statue b tons 1 lean 1 edge 1 buried", 1, 1);
        // Neither cut nor large nor buried nor tried ones count.
        leans(1, lay('a', 9) + stood('b', 8) + ";statue c tons 1 lean 30 edge 1 cut"
            + ";statue d tons 1 lean 30 edge 1 large;statue e tons 1 lean 30 edge 1 buried"
            + ";statue f tons 1 lean 30 edge 1 tried", 2, 6);
    }

    private static void told() {
        StoneWalk x = Check.told(Check.WHOLE_ISLAND + TELLERS);
        int[][] due = {{6, 4, 4, 4}, {5, 5, 5, 5}, {4, 4, 6, 6}};
        for (int teller = 0; teller < 3; teller++) {
            for (int way = 0; way < 4; way++) {
                Check.due(x, "told(" + way + ", " + teller + ")", x.told(way, teller),
                    due[teller][way], 0);
            }
        }
        Check.due(x, "told(4, 0)", x.told(4, 0), -1, Check.NO_SUCH);
        Check.due(x, "told(-1, 0)", x.told(-1, 0), -1, Check.NO_SUCH);
        Check.due(x, "told(0, 3)", x.told(0, 3), -1, Check.NO_SUCH);
        Check.due(x, "told(0, -1)", x.told(0, -1), -1, Check.NO_SUCH);
    }

    private static void turn() {
        StoneWalk x = Check.told(Check.WHOLE_ISLAND);
        Check.yes(x, "turn(0, 2)", x.turn(0, 2));
        Check.due("how a lies", x.statue(0, 4), 2);
        Check.due(x, "lies(1, 0)", x.lies(1, 0), 6, 0);
        Check.due(x, "odds(1)", x.odds(1), 30 * 6 * 2 * 9 * 3, 0);
        Check.no(x, "turn(0, 3)", x.turn(0, 3), Check.NO_SUCH);
        Check.no(x, "turn(0, -1)", x.turn(0, -1), Check.NO_SUCH);
        Check.no(x, "turn(7, 0)", x.turn(7, 0), Check.NO_SUCH);
        Check.no(x, "turn(-1, 0)", x.turn(-1, 0), Check.NO_SUCH);
        Check.no(x, "turn(1, 0)", x.turn(1, 0), Check.NOT_SO);
        Check.no(x, "turn(1, 3)", x.turn(1, 3), Check.NO_SUCH);
        Check.due("how b lies", x.statue(1, 4), -2);
        // A text that is refused leaves it turned, another one doesn't.
        x.island(0);
        Check.due("how a lies", x.statue(0, 4), 2);
        Check.tell(x, Check.WHOLE_ISLAND);
        Check.due("how a lies in a new island", x.statue(0, 4), 0);
    }

    private static void hangs() {
        StoneWalk x = Check.told(Check.WHOLE_ISLAND);
        Check.due(x, "hangs() of none", x.hangs(), -2, 0);
        // 192 walked, 1,080 by sled; without b 192 and 180.
        String two = ";statue c tons 1 lean 1 edge 1 cut"
            + ";statue a tons 1 lean 1 edge 1 lies face on r at 0"
            + ";statue b tons 1 lean 1 edge 1 lies side on r at 1";
        StoneWalk y = Check.told(TWO_WAYS + two);
        Check.due(y, "likeliest()", y.likeliest(), 1, 0);
        Check.due(y, "hangs()", y.hangs(), 2, 0);
        // Of two that would, the first.
        StoneWalk z = Check.told(TWO_WAYS + ";statue a tons 1 lean 1 edge 1 lies side on r at 1"
            + two.replace("statue a", "statue d"));
        Check.due(z, "hangs() of three", z.hangs(), -2, 0);
        StoneWalk u = Check.told("way w walked weighs 4 pull 1;way l sled weighs 1 pull 1;"
            + "road r hollow 2 slopes up 1,down 1;statue a tons 1 lean 1 edge 1 lies back on r at 0;"
            + "statue b tons 1 lean 1 edge 1 lies face on r at 1");
        // Walked 448, by sled 36; without a 64 and 18; without b 56 and 18.
        Check.due(u, "hangs() of a far lead", u.hangs(), -2, 0);
        u.turn(1, 2);
        // Walked 56, by sled 108; without a 8 and 54; without b 56 and 18.
        Check.due(u, "hangs() of b", u.hangs(), 1, 0);
        StoneWalk first = Check.told(TWO_WAYS + ";statue b tons 1 lean 1 edge 1 lies side on r at 1"
            + ";statue a tons 1 lean 1 edge 1 lies face on r at 0");
        Check.due(first, "hangs() of the first", first.hangs(), 0, 0);
        StoneWalk none = Check.told(TWO_WAYS + ";statue c tons 1 lean 1 edge 1 cut");
        Check.due(none, "hangs() if none lies", none.hangs(), -2, 0);
    }

    private static void hangsByShape() {
        StoneWalk x = Check.told("way w walked weighs 2 pull 1;way l sled weighs 1 pull 1;"
            + "road r hollow 2 slopes up 1;statue s tons 1 lean 10 edge 1 stood;"
            + "statue a tons 1 lean 20 edge 1 lies face on r at 0");
        // Walked 72, by sled 54; without a 4 and 9, with no SHAPE of it either.
        Check.due(x, "hangs() by shape", x.hangs(), 1, 0);
        Check.due(x, "odds(0)", x.odds(0), 72, 0);
        Check.due(x, "odds(1)", x.odds(1), 54, 0);
        StoneWalk y = Check.told("way w walked weighs 2 pull 1;way l sled weighs 1 pull 1;"
            + "road r hollow 2 slopes up 1;statue s tons 1 lean 10 edge 1 stood;"
            + "statue b tons 1 lean 10 edge 1 lies face on r at 0;"
            + "statue a tons 1 lean 20 edge 1 lies face on r at 0");
        // By 5: walked 144, by sled 108; without b by 10; without a by 0: 16 and 108.
        Check.due(y, "hangs() by the mean of the rest", y.hangs(), 2, 0);
    }

    private static void tryout() {
        StoneWalk x = Check.told(Check.WHOLE_ISLAND);
        Check.due(x, "tryout() of nothing", x.tryout(), -1, Check.NOTHING);
        // Walked 3,225,600; by sled 3,240; rolled 34,020; dragged 103,680.
        String all = ";try p tons 1 lean 12 edge 3 up 5";
        String notWalked = ";try u tons 1 lean 12 edge 2 up 5";
        String walkedAndDragged = ";try y tons 20 lean 24 edge 3 up 9";
        String onlySled = ";try m tons 31 lean 4 edge 3 down 6";
        StoneWalk y = Check.told(Check.WHOLE_ISLAND + all + notWalked + walkedAndDragged);
        // 3,366,540; 3,225,600; 3,329,280.
        Check.due(y, "tryout()", y.tryout(), 1, 0);
        StoneWalk z = Check.told(Check.WHOLE_ISLAND + all + walkedAndDragged + onlySled);
        // 3,363,300 for the last.
        Check.due(z, "tryout() of others", z.tryout(), 1, 0);
        StoneWalk u = Check.told(Check.WHOLE_ISLAND + all + all.replace(" p ", " u "));
        Check.due(u, "tryout() of two alike", u.tryout(), 0, 0);
        StoneWalk v = Check.told(Check.WHOLE_ISLAND + onlySled + notWalked);
        Check.due(v, "tryout() of two", v.tryout(), 1, 0);
    }

    private static void withoutIsland() {
        StoneWalk x = new StoneWalk();
        Check.due(x, "odds(0)", x.odds(0), -1, Check.NO_SUCH);
        Check.due(x, "odds(NONE)", x.odds(-1), -1, Check.NO_SUCH);
        Check.due(x, "likeliest()", x.likeliest(), -1, Check.NO_SUCH);
        Check.due(x, "lies(0, 0)", x.lies(0, 0), -1, Check.NO_SUCH);
        Check.due(x, "hollow(0, 0)", x.hollow(0, 0), -1, Check.NO_SUCH);
        Check.due(x, "shape(0)", x.shape(0), -1, Check.NO_SUCH);
        Check.due(x, "changed()", x.changed(), -1000, Check.NO_SUCH);
        Check.due(x, "told(0, 0)", x.told(0, 0), -1, Check.NO_SUCH);
        Check.no(x, "turn(0, 0)", x.turn(0, 0), Check.NO_SUCH);
        Check.due(x, "hangs()", x.hangs(), -1, Check.NO_SUCH);
        Check.due(x, "tryout()", x.tryout(), -1, Check.NO_SUCH);
    }
}
