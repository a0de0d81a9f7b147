/** States that an object can be in, how one is brought there, and all that shows of one. */
enum State {
    /** Nothing there yet. */
    NEW,
    /** No ISLAND, a part of the tape. */
    TAPED,
    /** No ISLAND, and no room left on the tape. */
    FULL_TAPE,
    /** No ISLAND, a text with a FAULT behind it. */
    FAULTY,
    /** One way, one road, one statue, and nothing that may be left out. */
    LEAST,
    /** A story and fields, but no land and no houses; one lies, and none stood. */
    LANDLESS,
    /** Land and houses, but no story and no fields; one stood, and none lies. */
    STOOD,
    /** Something of each sort of LINE. */
    WHOLE,
    TAPED_WHOLE,
    /** No room left for what is SEEN. */
    SEEN,
    /** What was SEEN fits none of the stories. */
    NO_FITS,
    BEGUN,
    UNDER_WAY,
    THERE,
    FELL,
    STUCK,
    SHORT,
    /** Short, and called. */
    CALLED,
    RESTORED,
    /** Under way, a text with a FAULT behind it. */
    KEPT,
    /** Under way, then another ISLAND. */
    REPLACED;

    static final String LEAST_TEXT =
        "way w sled weighs 1 pull 1;road r hollow 1 slopes up 1;statue a tons 1 lean 1 edge 1 cut";
    static final String WHOLE_TEXT =
        "way w walked weighs 50 pull 10;way l sled weighs 30 pull 5;way g dragged weighs 10 pull 3;"
        + "road r hollow 4 slopes up 2,down 3,up 0;road q hollow 2 slopes up 12;"
        + "statue a tons 10 lean 12 edge 6 lies face on r at 1;"
        + "statue b tons 20 lean 4 edge 8 stood;statue c tons 40 lean 0 edge 0 cut;"
        + "trial t of w tons 5 people 18 yards 100 minutes 40;"
        + "land trees 100 grows 4 people 50;fields 10 feeds 6;houses 5 holds 4 to 10;"
        + "story s weighs 3 felled 10;story u weighs 5 rats 50;"
        + "teller o year 722 means w;try p tons 5 lean 10 edge 5 up 4";
    private static final String LANDLESS_TEXT =
        "way w sled weighs 1 pull 1;road r hollow 1 slopes up 1;"
        + "statue a tons 1 lean 1 edge 1 lies face on r at 0;fields 1 feeds 1;story s weighs 1 rats 1";
    private static final String STOOD_TEXT =
        "way w sled weighs 1 pull 1;road r hollow 1 slopes up 1;statue a tons 1 lean 1 edge 1 stood;"
        + "houses 1 holds 1 to 1;land trees 1 grows 1 people 1";
    /** A WHOLE out of bounds, at byte 20. */
    static final String FAULTY_TEXT = "way w walked weighs 0 pull 1";

    static final int WALKED = 0;
    static final int SLED = 1;
    static final int DRAGGED = 2;

    private static final int[] NONE_THERE = {0, 0, 0, 0, 0, 0, 0};
    private static final int[] LEAST_THERE = {1, 1, 1, 0, 0, 0, 0};
    private static final int[] LANDLESS_THERE = {1, 1, 1, 0, 1, 0, 0};
    private static final int[] WHOLE_THERE = {3, 2, 3, 1, 2, 1, 1};

    boolean hasIsland() {
        return ordinal() >= LEAST.ordinal();
    }

    /** Whether it has what may be left out: land, fields, houses, stories, trials. */
    boolean isWhole() {
        return ordinal() >= WHOLE.ordinal() && this != REPLACED;
    }

    boolean hasLand() {
        return isWhole() || this == STOOD;
    }

    boolean hasStory() {
        return isWhole() || this == LANDLESS;
    }

    /** Whether statue 0 lies. */
    boolean firstLies() {
        return isWhole() || this == LANDLESS;
    }

    int seen() {
        if (this == SEEN) {
            return 12;
        }
        return this == NO_FITS || this == KEPT ? 1 : 0;
    }

    boolean hasMove() {
        return goesOn() || isOver() || this == SHORT;
    }

    boolean goesOn() {
        return this == BEGUN || this == UNDER_WAY || this == CALLED || this == RESTORED
            || this == KEPT;
    }

    boolean isOver() {
        return this == THERE || this == FELL || this == STUCK;
    }

    /** How many there are, numbered as size() does: 0 ways, 1 roads, 2 statues, .. */
    int many(int what) {
        if (!hasIsland()) {
            return NONE_THERE[what];
        }
        if (this == LANDLESS) {
            return LANDLESS_THERE[what];
        }
        return isWhole() ? WHOLE_THERE[what] : LEAST_THERE[what];
    }

    int held() {
        if (this == FULL_TAPE) {
            return 900;
        }
        return this == TAPED || this == TAPED_WHOLE ? 40 : 0;
    }

    StoneWalk make() {
        StoneWalk x = new StoneWalk();
        if (this == FAULTY || hasIsland()) {
            Check.tell(x, text());
        }
        for (int i = 0; i < held(); i += 20) {
            Check.feed(x, "way w sled weighs 1;");
        }
        if (hasIsland()) {
            x.seed(this == FELL ? 1748 : 7);
        }
        go(x);
        return x;
    }

    private String text() {
        return switch (this) {
            case FAULTY -> FAULTY_TEXT;
            case LEAST -> LEAST_TEXT;
            case LANDLESS -> LANDLESS_TEXT;
            case STOOD -> STOOD_TEXT;
            default -> WHOLE_TEXT;
        };
    }

    private void go(StoneWalk x) {
        switch (this) {
            case NO_FITS -> x.see(0, 0, 0);
            case SEEN -> seeAll(x);
            case BEGUN -> x.move(0, SLED, 0, 100);
            case UNDER_WAY -> steps(x, SLED, 100, 1);
            case THERE -> steps(x, DRAGGED, 200, 3);
            case FELL -> steps(x, WALKED, 20, 1);
            case STUCK -> {
                x.move(2, DRAGGED, 0, 200);
                x.step();
            }
            case SHORT -> steps(x, SLED, 43, 1);
            case CALLED -> {
                steps(x, SLED, 43, 1);
                x.call(60);
            }
            case RESTORED -> {
                steps(x, DRAGGED, 200, 1);
                long image = x.image();
                x.move(1, WALKED, 1, 1);
                x.restore(image);
            }
            case KEPT -> {
                steps(x, SLED, 100, 1);
                x.see(1, 2, 3);
                Check.tell(x, FAULTY_TEXT);
            }
            case REPLACED -> {
                steps(x, SLED, 100, 1);
                x.see(1, 2, 3);
                Check.tell(x, LEAST_TEXT);
            }
            default -> { }
        }
    }

    private static void steps(StoneWalk x, int way, int people, int many) {
        x.move(0, way, 0, people);
        for (int i = 0; i < many; i++) {
            x.step();
        }
    }

    private static void seeAll(StoneWalk x) {
        for (int i = 0; i < 12; i++) {
            x.see(i, 100, i < 11 ? 999 : 1);
        }
    }

    /** All that shows of an object but for fault(), where() and trouble(), and the tape's bytes. */
    static String show(StoneWalk x) {
        StringBuilder all = new StringBuilder();
        for (int what = 0; what <= 10; what++) {
            put(all, "size " + what, what == 9 ? 0 : x.size(what));
        }
        for (int t = 0; t < x.size(2); t++) {
            for (int what = 0; what < 7; what++) {
                put(all, "statue " + t + " " + what, x.statue(t, what));
            }
        }
        showMove(x, all);
        showWays(x, all);
        showTrees(x, all);
        showGoingOn(x, all);
        return all.toString();
    }

    private static void put(StringBuilder all, String what, long answer) {
        all.append(what).append(": ").append(answer).append('\n');
    }

    private static void showMove(StoneWalk x, StringBuilder all) {
        for (int what = 0; what <= 8; what++) {
            put(all, "at " + what, x.at(what));
        }
        put(all, "image", x.image());
    }

    private static void showWays(StoneWalk x, StringBuilder all) {
        for (int way = -1; way < 3; way++) {
            put(all, "odds " + way, x.odds(way));
            put(all, "canOn " + way, x.canOn(way, 0, 0));
            put(all, "need " + way, x.need(way, 0, 0));
            put(all, "told " + way, x.told(way, 0));
            put(all, "hollow " + way, x.hollow(way, 0));
            put(all, "shape " + way, x.shape(way));
            put(all, "people " + way, x.people(way, 9, true));
            put(all, "takes " + way, x.takes(way, 9, true));
            put(all, "wood " + way, x.wood(way));
            put(all, "enough " + way, x.enough(way));
        }
        put(all, "likeliest", x.likeliest());
        put(all, "changed", x.changed());
        put(all, "hangs", x.hangs());
        put(all, "tryout", x.tryout());
        put(all, "off", x.off(0));
    }

    private static void showTrees(StoneWalk x, StringBuilder all) {
        for (int story = 0; story < 2; story++) {
            put(all, "trees " + story, x.trees(story, 0));
            put(all, "trees later " + story, x.trees(story, 99));
            put(all, "gone " + story, x.gone(story));
        }
        put(all, "fits", x.fits());
        put(all, "weight", x.weight());
        put(all, "dig", x.dig());
        put(all, "lived", x.lived(false));
        put(all, "lived at most", x.lived(true));
    }

    /** What the object would answer next, which changes it. */
    private static void showGoingOn(StoneWalk x, StringBuilder all) {
        put(all, "step", x.step());
        put(all, "call", x.call(150) ? 1 : 0);
        for (int i = 0; i < 3; i++) {
            put(all, "step " + i, x.step());
        }
        put(all, "tries", x.tries(3));
        showMove(x, all);
        put(all, "seed", x.size(8));
        put(all, "see", x.see(0, 0, 0));
        put(all, "forget", x.forget());
    }

    /** What the bytes of the tape are, by the place at which they stop being a text. */
    static String showTape(StoneWalk x) {
        StringBuilder all = new StringBuilder();
        int held = x.size(9);
        put(all, "held", held);
        put(all, "island", x.island(held));
        put(all, "fault", x.fault());
        put(all, "where", x.where());
        put(all, "held then", x.size(9));
        return all.toString();
    }
}
