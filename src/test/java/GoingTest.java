/** Promises 6 to 13: which statue can go which way how steep, by how many, in what time. */
public final class GoingTest {
    private static final int WALKED = 0;
    private static final int SLED = 1;
    private static final int ROLLED = 2;
    private static final int DRAGGED = 3;

    private static final int A = 0;
    private static final int B = 1;
    private static final int C = 2;
    private static final int D = 3;
    private static final int E = 4;
    private static final int F = 5;
    private static final int H = 6;

    public static void main(String[] args) {
        can();
        walkedEdges();
        canOn();
        steepest();
        need();
        minutes();
        chance();
        lying();
        easiest();
        withoutIsland();
        Check.end("GoingTest");
    }

    private static void range(int way, int statue, int low, int high) {
        StoneWalk x = Check.told(Check.WHOLE_ISLAND);
        for (int s = -20; s <= 20; s++) {
            String call = "can(" + way + ", " + statue + ", " + s + ")";
            Check.due(x, call, x.can(way, statue, s), s >= low && s <= high ? 1 : 0, 0);
        }
        boolean none = low > high;
        Check.due(x, "steepest(" + way + ", " + statue + ", false)",
            x.steepest(way, statue, false), none ? -100 : high, 0);
        Check.due(x, "steepest(" + way + ", " + statue + ", true)",
            x.steepest(way, statue, true), none ? -100 : low, 0);
    }

    private static void can() {
        range(WALKED, A, -3, 6);
        range(WALKED, B, 1, 0);
        range(WALKED, C, 1, 0);
        range(WALKED, D, -6, 12);
        range(WALKED, E, 1, 0);
        range(WALKED, F, 1, 0);
        range(WALKED, H, -2, 5);
        range(SLED, A, -6, 8);
        range(SLED, C, -6, 8);
        range(ROLLED, D, -3, 5);
        range(ROLLED, C, 1, 0);
        range(ROLLED, H, -3, 5);
        range(DRAGGED, B, -20, 12);
        range(DRAGGED, E, 1, 0);
        StoneWalk x = Check.told(Check.WHOLE_ISLAND);
        Check.due(x, "can(4, 0, 0)", x.can(4, 0, 0), -1, Check.NO_SUCH);
        Check.due(x, "can(-1, 0, 0)", x.can(-1, 0, 0), -1, Check.NO_SUCH);
        Check.due(x, "can(0, 7, 0)", x.can(0, 7, 0), -1, Check.NO_SUCH);
        Check.due(x, "can(0, -1, 0)", x.can(0, -1, 0), -1, Check.NO_SUCH);
        Check.due(x, "can(0, 0, 21)", x.can(0, 0, 21), -1, Check.NUMBER);
        Check.due(x, "can(0, 0, -21)", x.can(0, 0, -21), -1, Check.NUMBER);
        Check.due(x, "can(4, 0, 21)", x.can(4, 0, 21), -1, Check.NO_SUCH);
        Check.due(x, "can(MAX, MAX, 0)", x.can(Integer.MAX_VALUE, Integer.MAX_VALUE, 0), -1,
            Check.NO_SUCH);
    }

    private static void walkedEdges() {
        StoneWalk x = Check.told("way w walked weighs 1 pull 1;way k rolled weighs 1 pull 1;"
            + "way g dragged weighs 1 pull 1;road r hollow 1 slopes up 1;"
            + "statue a tons 31 lean 5 edge 3 cut;statue b tons 21 lean 25 edge 3 cut");
        Check.due(x, "lean 5, edge 3, down", x.steepest(0, 0, true), -1, 0);
        Check.due(x, "lean 5, edge 3, up", x.steepest(0, 0, false), 2, 0);
        Check.due(x, "lean 25, down", x.steepest(0, 1, true), -6, 0);
        Check.due(x, "lean 25, up", x.steepest(0, 1, false), 12, 0);
        Check.due(x, "31 tons rolled", x.can(1, 0, 0), 0, 0);
        Check.due(x, "21 tons rolled", x.can(1, 1, 0), 1, 0);
        Check.due(x, "21 tons dragged", x.can(2, 1, 0), 0, 0);
    }

    private static void canOn() {
        StoneWalk x = Check.told(Check.WHOLE_ISLAND);
        Check.due(x, "canOn(0, 0, 0)", x.canOn(WALKED, A, 0), 7, 0);
        Check.due(x, "canOn(0, 6, 0)", x.canOn(WALKED, H, 0), 5, 0);
        Check.due(x, "canOn(0, 1, 0)", x.canOn(WALKED, B, 0), 0, 0);
        Check.due(x, "canOn(0, 3, 1)", x.canOn(WALKED, D, 1), 1, 0);
        Check.due(x, "canOn(1, 0, 2)", x.canOn(SLED, A, 2), 3, 0);
        Check.due(x, "canOn(1, 0, 1)", x.canOn(SLED, A, 1), 0, 0);
        Check.due(x, "canOn(0, 3, 2)", x.canOn(WALKED, D, 2), 3, 0);
        Check.due(x, "canOn(0, 0, 2)", x.canOn(WALKED, A, 2), 0, 0);
        Check.due(x, "canOn(4, 0, 0)", x.canOn(4, 0, 0), -1, Check.NO_SUCH);
        Check.due(x, "canOn(0, 7, 0)", x.canOn(0, 7, 0), -1, Check.NO_SUCH);
        Check.due(x, "canOn(0, 0, 3)", x.canOn(0, 0, 3), -1, Check.NO_SUCH);
        Check.due(x, "canOn(0, 0, -1)", x.canOn(0, 0, -1), -1, Check.NO_SUCH);
    }

    private static void steepest() {
        StoneWalk x = Check.told(Check.WHOLE_ISLAND);
        Check.due(x, "steepest(4, 0, true)", x.steepest(4, 0, true), -1000, Check.NO_SUCH);
        Check.due(x, "steepest(0, 7, false)", x.steepest(0, 7, false), -1000, Check.NO_SUCH);
        Check.due(x, "steepest(3, 0, true)", x.steepest(DRAGGED, A, true), -20, 0);
        // A lean of 30 or of 26 can't be walked, so 20 is never reached by one.
        StoneWalk y = Check.told("way w walked weighs 1 pull 1;road r hollow 1 slopes up 1;"
            + "statue a tons 1 lean 24 edge 20 cut");
        Check.due(y, "steepest of lean 24", y.steepest(0, 0, false), 12, 0);
        Check.due(y, "least of lean 24", y.steepest(0, 0, true), -6, 0);
    }

    private static void need() {
        StoneWalk x = Check.told(Check.WHOLE_ISLAND);
        Check.due(x, "need(0, 0, 0)", x.need(WALKED, A, 0), 10, 0);
        Check.due(x, "need(0, 0, 1)", x.need(WALKED, A, 1), 11, 0);
        Check.due(x, "need(0, 0, 2)", x.need(WALKED, A, 2), 11, 0);
        Check.due(x, "need(0, 0, 3)", x.need(WALKED, A, 3), 12, 0);
        Check.due(x, "need(0, 0, -20)", x.need(WALKED, A, -20), 10, 0);
        Check.due(x, "need(0, 0, 20)", x.need(WALKED, A, 20), 20, 0);
        Check.due(x, "need(1, 0, 0)", x.need(SLED, A, 0), 40, 0);
        Check.due(x, "need(1, 2, 8)", x.need(SLED, C, 8), 224, 0);
        // 100 by 7, upwards.
        Check.due(x, "need(2, 0, 0)", x.need(ROLLED, A, 0), 15, 0);
        // 20 times 10 times 3 times 160 by 300.
        Check.due(x, "need(3, 1, 12)", x.need(DRAGGED, B, 12), 320, 0);
        Check.due(x, "need of one ton", x.need(WALKED, H, 0), 1, 0);
        // It is told of one that can't go, too.
        Check.due(x, "need(0, 2, 0)", x.need(WALKED, C, 0), 40, 0);
        Check.due(x, "need(0, 0, 21)", x.need(0, 0, 21), -1, Check.NUMBER);
        Check.due(x, "need(0, 0, -21)", x.need(0, 0, -21), -1, Check.NUMBER);
        Check.due(x, "need(4, 0, 0)", x.need(4, 0, 0), -1, Check.NO_SUCH);
        Check.due(x, "need(0, 7, 99)", x.need(0, 7, 99), -1, Check.NO_SUCH);
        StoneWalk most = Check.told("way g dragged weighs 1 pull 1;road r hollow 1 slopes up 1;"
            + "statue a tons 99 lean 1 edge 1 cut");
        Check.due(most, "the greatest need", most.need(0, 0, 20), 5940, 0);
        Check.due(most, "the most minutes", most.minutes(0, 0, 20, 1), 534600, 0);
    }

    private static void minutes() {
        StoneWalk x = Check.told(Check.WHOLE_ISLAND);
        Check.due(x, "minutes(0, 0, 0, 10)", x.minutes(WALKED, A, 0, 10), 40, 0);
        Check.due(x, "minutes(0, 0, 0, 11)", x.minutes(WALKED, A, 0, 11), 37, 0);
        Check.due(x, "minutes(0, 0, 0, 19)", x.minutes(WALKED, A, 0, 19), 22, 0);
        Check.due(x, "minutes(0, 0, 0, 20)", x.minutes(WALKED, A, 0, 20), 20, 0);
        Check.due(x, "minutes(0, 0, 0, 200)", x.minutes(WALKED, A, 0, 200), 20, 0);
        Check.due(x, "minutes(0, 0, 0, 3)", x.minutes(WALKED, A, 0, 3), 134, 0);
        Check.due(x, "minutes(0, 0, 0, 1)", x.minutes(WALKED, A, 0, 1), 400, 0);
        Check.due(x, "minutes(1, 0, 0, 40)", x.minutes(SLED, A, 0, 40), 60, 0);
        Check.due(x, "minutes(1, 0, 0, 100)", x.minutes(SLED, A, 0, 100), 30, 0);
        Check.due(x, "minutes(2, 0, 0, 15)", x.minutes(ROLLED, A, 0, 15), 30, 0);
        Check.due(x, "minutes(2, 0, 0, 200)", x.minutes(ROLLED, A, 0, 200), 15, 0);
        Check.due(x, "minutes(3, 0, 0, 100)", x.minutes(DRAGGED, A, 0, 100), 90, 0);
        Check.due(x, "minutes(3, 0, 0, 200)", x.minutes(DRAGGED, A, 0, 200), 45, 0);
        Check.due(x, "minutes(0, 0, 0, 0)", x.minutes(0, 0, 0, 0), -1, Check.NUMBER);
        Check.due(x, "minutes(0, 0, 0, 201)", x.minutes(0, 0, 0, 201), -1, Check.NUMBER);
        Check.due(x, "minutes(0, 0, 21, 1)", x.minutes(0, 0, 21, 1), -1, Check.NUMBER);
        Check.due(x, "minutes(0, 0, -21, 1)", x.minutes(0, 0, -21, 1), -1, Check.NUMBER);
        Check.due(x, "minutes(0, 7, 0, 0)", x.minutes(0, 7, 0, 0), -1, Check.NO_SUCH);
        Check.due(x, "minutes(-1, 0, 0, 1)", x.minutes(-1, 0, 0, 1), -1, Check.NO_SUCH);
    }

    private static void chance() {
        for (int s = -20; s <= 20; s++) {
            StoneWalk x = Check.told(Check.WHOLE_ISLAND);
            int steep = s < 0 ? -s : s;
            String call = " on " + s;
            Check.due(x, "walked, edge 6" + call, x.chance(WALKED, A, s), 2 * steep + 4, 0);
            Check.due(x, "walked, edge 0" + call, x.chance(WALKED, C, s), 2 * steep + 10, 0);
            Check.due(x, "walked, edge 12" + call, x.chance(WALKED, H, s), 2 * steep, 0);
            Check.due(x, "sled" + call, x.chance(SLED, C, s), steep, 0);
            Check.due(x, "rolled" + call, x.chance(ROLLED, C, s), 3 * steep, 0);
            Check.due(x, "dragged" + call, x.chance(DRAGGED, C, s), 0, 0);
        }
        StoneWalk x = Check.told(Check.WHOLE_ISLAND);
        Check.due(x, "chance(0, 0, 21)", x.chance(0, 0, 21), -1, Check.NUMBER);
        Check.due(x, "chance(0, 0, -21)", x.chance(0, 0, -21), -1, Check.NUMBER);
        Check.due(x, "chance(4, 0, 0)", x.chance(4, 0, 0), -1, Check.NO_SUCH);
        Check.due(x, "chance(0, 7, 21)", x.chance(0, 7, 21), -1, Check.NO_SUCH);
    }

    private static void lie(StoneWalk x, int way, int s, int face, int back, int side) {
        String call = "lying(" + way + ", " + s + ", ";
        Check.due(x, call + "0)", x.lying(way, s, 0), face, 0);
        Check.due(x, call + "1)", x.lying(way, s, 1), back, 0);
        Check.due(x, call + "2)", x.lying(way, s, 2), side, 0);
    }

    private static void lying() {
        StoneWalk x = Check.told(Check.WHOLE_ISLAND);
        for (int steep = 1; steep <= 20; steep += 19) {
            lie(x, WALKED, -steep, 8, 1, 1);
            lie(x, WALKED, steep, 2, 7, 1);
            lie(x, SLED, -steep, 2, 2, 6);
            lie(x, SLED, steep, 2, 2, 6);
            lie(x, ROLLED, -steep, 3, 2, 5);
            lie(x, ROLLED, steep, 2, 3, 5);
            lie(x, DRAGGED, -steep, 6, 3, 1);
            lie(x, DRAGGED, steep, 5, 4, 1);
        }
        lie(x, WALKED, 0, 4, 4, 2);
        lie(x, SLED, 0, 2, 2, 6);
        lie(x, ROLLED, 0, 2, 3, 5);
        lie(x, DRAGGED, 0, 5, 4, 1);
        Check.due(x, "lying(0, 0, 3)", x.lying(0, 0, 3), -1, Check.NO_SUCH);
        Check.due(x, "lying(0, 0, -1)", x.lying(0, 0, -1), -1, Check.NO_SUCH);
        Check.due(x, "lying(4, 0, 0)", x.lying(4, 0, 0), -1, Check.NO_SUCH);
        Check.due(x, "lying(0, 21, 0)", x.lying(0, 21, 0), -1, Check.NUMBER);
        Check.due(x, "lying(0, -21, 0)", x.lying(0, -21, 0), -1, Check.NUMBER);
        Check.due(x, "lying(0, 21, 3)", x.lying(0, 21, 3), -1, Check.NO_SUCH);
    }

    private static void easiest() {
        StoneWalk x = Check.told(Check.WHOLE_ISLAND);
        // 11 walked, 44 by sled, 16 rolled, 110 dragged.
        Check.due(x, "easiest(0, 0)", x.easiest(A, 0), WALKED, 0);
        // Neither walked nor rolled nor dragged.
        Check.due(x, "easiest(2, 0)", x.easiest(C, 0), SLED, 0);
        // Nothing goes up 12 with 40 tons; dragged with 20.
        Check.due(x, "easiest(2, 1)", x.easiest(C, 1), -2, 0);
        Check.due(x, "easiest(1, 1)", x.easiest(B, 1), DRAGGED, 0);
        Check.due(x, "easiest(5, 0)", x.easiest(F, 0), ROLLED, 0);
        Check.due(x, "easiest(7, 0)", x.easiest(7, 0), -1, Check.NO_SUCH);
        Check.due(x, "easiest(0, 3)", x.easiest(0, 3), -1, Check.NO_SUCH);
        // Two that need as many: the first; the worst slope counts, not the last.
        StoneWalk y = Check.told("way l sled weighs 1 pull 2;way m sled weighs 1 pull 4;"
            + "way n sled weighs 1 pull 4;way w walked weighs 1 pull 1;"
            + "road r hollow 1 slopes up 1,up 6,down 1;road q hollow 1 slopes up 8,down 6;"
            + "statue a tons 10 lean 20 edge 9 cut");
        Check.due(y, "two alike", y.easiest(0, 0), 1, 0);
        StoneWalk z = Check.told("way g dragged weighs 1 pull 5;way l sled weighs 1 pull 4;"
            + "way k rolled weighs 1 pull 20;road r hollow 1 slopes up 8,up 0;"
            + "statue a tons 10 lean 20 edge 9 cut");
        // Dragged 84, by sled 70; rolled it can't go up 8.
        Check.due(z, "easiest over up 8", z.easiest(0, 0), 1, 0);
        // 2 each on the level, but 3 and 2 up 8, wherever that is.
        String two = "way l sled weighs 1 pull 10;way m sled weighs 1 pull 14;"
            + "statue a tons 1 lean 20 edge 9 cut;road r hollow 1 slopes ";
        StoneWalk u = Check.told(two + "up 8,up 0");
        Check.due(u, "easiest, the first slope the worst", u.easiest(0, 0), 1, 0);
        Check.tell(u, two + "up 0,up 8");
        Check.due(u, "easiest, the last slope the worst", u.easiest(0, 0), 1, 0);
        for (int i = 0; i < 2; i++) {
            Check.tell(u, two + "up 0");
            Check.due(u, "easiest on the level", u.easiest(0, 0), 0, 0);
        }
    }

    private static void withoutIsland() {
        StoneWalk x = new StoneWalk();
        Check.due(x, "can()", x.can(0, 0, 0), -1, Check.NO_SUCH);
        Check.due(x, "canOn()", x.canOn(0, 0, 0), -1, Check.NO_SUCH);
        Check.due(x, "steepest()", x.steepest(0, 0, true), -1000, Check.NO_SUCH);
        Check.due(x, "need()", x.need(0, 0, 0), -1, Check.NO_SUCH);
        Check.due(x, "minutes()", x.minutes(0, 0, 0, 1), -1, Check.NO_SUCH);
        Check.due(x, "chance()", x.chance(0, 0, 0), -1, Check.NO_SUCH);
        Check.due(x, "lying()", x.lying(0, 0, 0), -1, Check.NO_SUCH);
        Check.due(x, "easiest()", x.easiest(0, 0), -1, Check.NO_SUCH);
    }
}
