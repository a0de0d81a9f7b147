/** Promises 32 to 36: people, takes, off, wood, enough. */
public final class TrialTest {
    public static void main(String[] args) {
        people();
        takes();
        off();
        wood();
        enough();
        withoutIsland();
        Check.end("TrialTest");
    }

    private static void people() {
        StoneWalk x = Check.told(Check.WHOLE_ISLAND);
        Check.due(x, "people(0, 10, false)", x.people(0, 10, false), 25, 0);
        Check.due(x, "people(0, 10, true)", x.people(0, 10, true), 36, 0);
        Check.due(x, "people(0, 1, false)", x.people(0, 1, false), 3, 0);
        Check.due(x, "people(0, 1, true)", x.people(0, 1, true), 4, 0);
        Check.due(x, "people(0, 32, false)", x.people(0, 32, false), 80, 0);
        Check.due(x, "people(0, 32, true)", x.people(0, 32, true), 116, 0);
        Check.due(x, "people(0, 33, true)", x.people(0, 33, true), -1, Check.NOTHING);
        Check.due(x, "people(1, 40, true)", x.people(1, 40, true), 100, 0);
        Check.due(x, "people(1, 41, false)", x.people(1, 41, false), -1, Check.NOTHING);
        Check.due(x, "people(2, 1, false)", x.people(2, 1, false), -1, Check.NOTHING);
        Check.due(x, "people(0, 0, false)", x.people(0, 0, false), -1, Check.NUMBER);
        Check.due(x, "people(0, 401, false)", x.people(0, 401, false), -1, Check.NUMBER);
        Check.due(x, "people(2, 401, false)", x.people(2, 401, false), -1, Check.NUMBER);
        Check.due(x, "people(0, 400, false)", x.people(0, 400, false), -1, Check.NOTHING);
        Check.due(x, "people(4, 0, false)", x.people(4, 0, false), -1, Check.NO_SUCH);
        Check.due(x, "people(-1, 1, false)", x.people(-1, 1, false), -1, Check.NO_SUCH);
        StoneWalk y = Check.told("way w walked weighs 1 pull 1;road r hollow 1 slopes up 1;"
            + "statue a tons 1 lean 1 edge 1 cut;"
            + "trial t of w tons 99 people 200 yards 1 minutes 1;"
            + "trial v of w tons 1 people 200 yards 1 minutes 1");
        // The greatest trial's tons count, not the latest's.
        Check.due(y, "people(0, 396, true)", y.people(0, 396, true), 79200, 0);
        Check.due(y, "people(0, 396, false)", y.people(0, 396, false), 800, 0);
        Check.due(y, "people(0, 397, true)", y.people(0, 397, true), -1, Check.NOTHING);
    }

    private static void takes() {
        StoneWalk x = Check.told(Check.WHOLE_ISLAND);
        Check.due(x, "takes(0, 100, false)", x.takes(0, 100, false), 17, 0);
        Check.due(x, "takes(0, 100, true)", x.takes(0, 100, true), 40, 0);
        Check.due(x, "takes(0, 9999, false)", x.takes(0, 9999, false), 1667, 0);
        Check.due(x, "takes(0, 9999, true)", x.takes(0, 9999, true), 4000, 0);
        Check.due(x, "takes(0, 1, true)", x.takes(0, 1, true), 1, 0);
        Check.due(x, "takes(1, 999, true)", x.takes(1, 999, true), 1, 0);
        Check.due(x, "takes(1, 1000, true)", x.takes(1, 1000, true), 2, 0);
        Check.due(x, "takes(2, 1, true)", x.takes(2, 1, true), -1, Check.NOTHING);
        Check.due(x, "takes(0, 0, true)", x.takes(0, 0, true), -1, Check.NUMBER);
        Check.due(x, "takes(0, 10000, true)", x.takes(0, 10000, true), -1, Check.NUMBER);
        Check.due(x, "takes(2, 0, true)", x.takes(2, 0, true), -1, Check.NUMBER);
        Check.due(x, "takes(4, 0, true)", x.takes(4, 0, true), -1, Check.NO_SUCH);
        Check.due(x, "takes(-1, 1, true)", x.takes(-1, 1, true), -1, Check.NO_SUCH);
    }

    private static void off() {
        StoneWalk x = Check.told(Check.WHOLE_ISLAND);
        Check.due(x, "off(0)", x.off(0), 5 - 18, 0);
        Check.due(x, "off(1)", x.off(1), 8 - 20, 0);
        Check.due(x, "off(2)", x.off(2), 40 - 25, 0);
        Check.due(x, "off(3)", x.off(3), -1000, Check.NO_SUCH);
        Check.due(x, "off(-1)", x.off(-1), -1000, Check.NO_SUCH);
    }

    private static void wood() {
        StoneWalk x = Check.told(Check.WHOLE_ISLAND);
        // a: 10 tons over 1 slope, d: 30 over 1, b, that stood: 20 over all 3.
        Check.due(x, "wood(0)", x.wood(0), 0, 0);
        Check.due(x, "wood(1)", x.wood(1), 200, 0);
        Check.due(x, "wood(2)", x.wood(2), 400, 0);
        Check.due(x, "wood(3)", x.wood(3), 100, 0);
        Check.due(x, "wood(4)", x.wood(4), -1, Check.NO_SUCH);
        Check.due(x, "wood(-1)", x.wood(-1), -1, Check.NO_SUCH);
        StoneWalk y = Check.told("way g dragged weighs 1 pull 1;"
            + "road r hollow 1 slopes up 1,up 1;road q hollow 1 slopes up 1,up 1,up 1,up 1,up 1;"
            + "statue a tons 1 lean 1 edge 1 lies face on q at 0;"
            + "statue b tons 10 lean 1 edge 1 lies face on q at 4;"
            + "statue c tons 50 lean 1 edge 1 stood;statue d tons 99 lean 1 edge 1 cut;"
            + "statue e tons 99 lean 1 edge 1 large;statue f tons 99 lean 1 edge 1 buried;"
            + "statue h tons 99 lean 1 edge 1 tried");
        Check.due(y, "wood over slopes ahead", y.wood(0), 10 * 4 + 50 * 2, 0);
    }

    private static void enough() {
        StoneWalk x = Check.told(Check.WHOLE_ISLAND);
        Check.due(x, "enough(1) without land", x.enough(1), -1, Check.NOTHING);
        Check.due(x, "enough(4)", x.enough(4), -1, Check.NO_SUCH);
        StoneWalk y = Check.told(Check.WHOLE_ISLAND + ";land trees 20 grows 0 people 0");
        Check.due(y, "enough(0)", y.enough(0), 1, 0);
        Check.due(y, "enough(1)", y.enough(1), 1, 0);
        Check.due(y, "enough(2)", y.enough(2), 0, 0);
        Check.due(y, "enough(3)", y.enough(3), 1, 0);
        StoneWalk z = Check.told(Check.WHOLE_ISLAND + ";land trees 19 grows 0 people 0");
        Check.due(z, "enough(1) with one tree less", z.enough(1), 0, 0);
        StoneWalk u = Check.told(Check.WHOLE_ISLAND + ";land trees 0 grows 0 people 0");
        Check.due(u, "enough(0) with none", u.enough(0), 1, 0);
        Check.due(u, "enough(-1)", u.enough(-1), -1, Check.NO_SUCH);
    }

    private static void withoutIsland() {
        StoneWalk x = new StoneWalk();
        Check.due(x, "people()", x.people(0, 1, true), -1, Check.NO_SUCH);
        Check.due(x, "takes()", x.takes(0, 1, true), -1, Check.NO_SUCH);
        Check.due(x, "off()", x.off(0), -1000, Check.NO_SUCH);
        Check.due(x, "wood()", x.wood(0), -1, Check.NO_SUCH);
        Check.due(x, "enough()", x.enough(0), -1, Check.NO_SUCH);
    }
}
