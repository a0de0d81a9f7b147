/** TREES, SEEN, FITS, GONE and LIVED of Term III, promises 37 to 44: a test of each bound or edge. */
public final class TreeEdgeTest {
    private static final String LEAST =
        "way w sled weighs 1 pull 1;road r hollow 1 slopes up 1;statue a tons 1 lean 1 edge 1 cut";
    private static final int FELLED = 0;
    private static final int RATS = 1;
    private static final int FIRES = 2;

    public static void main(String[] args) {
        yearsBounds();
        firstYear();
        treesByFelling();
        treesByRats();
        treesByFires();
        fireInAYear();
        fewestTrees();
        mostTrees();
        eachDownwards();
        seenBounds();
        twelveSeen();
        forgotten();
        seenWithoutLand();
        fitsWithoutSight();
        fitsAsFarOff();
        fitsAll();
        weightOfThose();
        goneBelowTen();
        goneInTheLastYear();
        digFirst();
        digOfOne();
        digOfNone();
        digGreatestLessLeast();
        withoutStories();
        livedWhicheverIsLess();
        livedAtLeast();
        livedWithout();
        Check.end("TreeEdgeTest");
    }

    private static StoneWalk land(int trees, int grows, int people, String stories) {
        return Check.told(LEAST + ";land trees " + trees + " grows " + grows + " people " + people
            + stories);
    }

    private static String story(char name, String cause) {
        return ";story " + name + " weighs 1 " + cause;
    }

    /** What the next year has, by the words of the document. */
    private static int next(int was, int grows, int people, int cause, int k, int every, int year) {
        int grown = was * grows / 100;
        if (cause == RATS) {
            grown = grown * (100 - k) / 100;
        }
        int lost = was * 2 / 100;
        if (cause == FELLED) {
            lost += k * people / 100;
        }
        if (cause == FIRES && year % every == 0) {
            lost += was * k / 100;
        }
        return Math.max(0, Math.min(9999, was + grown - lost));
    }

    private static void years(int trees, int grows, int people, int cause, int k, int every) {
        String[] causes = {"felled " + k, "rats " + k, "fires " + k + " every " + every};
        StoneWalk x = land(trees, grows, people, story('s', causes[cause]));
        String what = trees + ", " + grows + ", " + people + ", " + causes[cause];
        int due = trees;
        int gone = -2;
        for (int year = 0; year < 100; year++) {
            due = year == 0 ? trees : next(due, grows, people, cause, k, every, year);
            gone = gone == -2 && due < 10 ? year : gone;
            Check.due(x, "trees(0, " + year + ") of " + what, x.trees(0, year), due, 0);
        }
        Check.due(x, "gone(0) of " + what, x.gone(0), gone, 0);
        Check.due(x, "trees(0, 100) of " + what, x.trees(0, 100), -1, Check.NUMBER);
    }

    /** "years 0 .. 99". */
    private static void yearsBounds() {
        StoneWalk x = land(100, 0, 0, story('s', "felled 0") + story('u', "rats 0"));
        Check.due(x, "trees(0, 0)", x.trees(0, 0), 100, 0);
        Check.due(x, "trees(0, 99)", x.trees(0, 99), 49, 0);
        Check.due(x, "trees(1, 99)", x.trees(1, 99), 49, 0);
        for (int year : new int[] {-1, 100, Integer.MIN_VALUE, Integer.MAX_VALUE}) {
            Check.due(x, "trees(0, " + year + ")", x.trees(0, year), -1, Check.NUMBER);
            Check.due(x, "trees(2, " + year + ")", x.trees(2, year), -1, Check.NO_SUCH);
        }
        StoneWalk none = Check.told(LEAST + story('s', "felled 0"));
        Check.due(none, "trees(0, 100) without land", none.trees(0, 100), -1, Check.NUMBER);
        Check.due(none, "trees(0, 99) without land", none.trees(0, 99), -1, Check.NOTHING);
        Check.due(none, "trees(1, 99) without land", none.trees(1, 99), -1, Check.NO_SUCH);
    }

    /** "trees at first": whatever the story, and though every goes into 0. */
    private static void firstYear() {
        StoneWalk x = land(500, 50, 999, story('s', "felled 99") + story('u', "rats 100")
            + story('f', "fires 100 every 1") + story('h', "fires 100 every 50"));
        for (int story = 0; story < 4; story++) {
            Check.due(x, "trees(" + story + ", 0)", x.trees(story, 0), 500, 0);
        }
        StoneWalk y = land(0, 50, 999, story('s', "rats 0"));
        Check.due(y, "trees(0, 0) of none", y.trees(0, 0), 0, 0);
        Check.due(y, "trees(0, 99) of none", y.trees(0, 99), 0, 0);
    }

    /** "by felled k times people by 100", k 0 .. 99, people 0 .. 999. */
    private static void treesByFelling() {
        for (int k : new int[] {0, 1, 50, 99}) {
            for (int people : new int[] {0, 1, 101, 999}) {
                years(999, 7, people, FELLED, k, 1);
                years(150, 50, people, FELLED, k, 1);
            }
        }
    }

    /** "(by rats that times (100 less k) by 100)", k 0 .. 100. */
    private static void treesByRats() {
        for (int k : new int[] {0, 1, 33, 50, 99, 100}) {
            years(999, 7, 999, RATS, k, 1);
            years(150, 7, 0, RATS, k, 1);
            years(999, 50, 0, RATS, k, 1);
        }
    }

    /** "by fires, .. trees times k by 100", k 0 .. 100, every 1 .. 50. */
    private static void treesByFires() {
        for (int k : new int[] {0, 1, 50, 100}) {
            for (int every : new int[] {1, 2, 7, 49, 50}) {
                years(999, 9, 999, FIRES, k, every);
            }
        }
    }

    /** "in a year that every goes into". */
    private static void fireInAYear() {
        for (int every = 1; every <= 50; every++) {
            // On a land that neither grows nor loses a tree but by fires.
            StoneWalk x = land(49, 0, 0, story('f', "fires 3 every " + every));
            int due = 49;
            for (int year = 1; year < 100; year++) {
                due -= year % every == 0 ? due * 3 / 100 : 0;
                Check.due(x, "trees(0, " + year + ") every " + every, x.trees(0, year), due, 0);
            }
        }
    }

    /** "0 at least". */
    private static void fewestTrees() {
        StoneWalk x = land(10, 0, 100, story('s', "felled 10") + story('u', "felled 11")
            + story('v', "felled 9"));
        Check.due(x, "ten of ten felled", x.trees(0, 1), 0, 0);
        Check.due(x, "eleven of ten felled", x.trees(1, 1), 0, 0);
        Check.due(x, "nine of ten felled", x.trees(2, 1), 1, 0);
        Check.due(x, "nine of one felled", x.trees(2, 2), 0, 0);
        Check.due(x, "none comes back", x.trees(1, 99), 0, 0);
        StoneWalk y = land(60, 0, 0, story('f', "fires 100 every 1"));
        // 60 and 1 of 60 go.
        Check.due(y, "more than all by fires", y.trees(0, 1), 0, 0);
    }

    /** "9,999 at most". */
    private static void mostTrees() {
        StoneWalk x = land(999, 50, 0, story('s', "rats 0") + story('u', "fires 1 every 50"));
        // 999, 1479, 2189, 3240, 4796, 7099, 10507.
        Check.due(x, "trees(0, 5)", x.trees(0, 5), 7099, 0);
        for (int year : new int[] {6, 7, 50, 99}) {
            Check.due(x, "trees(0, " + year + ")", x.trees(0, year), 9999, 0);
        }
        Check.due(x, "trees(1, 49)", x.trees(1, 49), 9999, 0);
        Check.due(x, "trees(1, 50)", x.trees(1, 50), 9999, 0);
        StoneWalk y = land(999, 50, 0, story('u', "fires 100 every 50"));
        // 4,999 grow, 199 and all go.
        Check.due(y, "trees(0, 50)", y.trees(0, 50), 9999 + 4999 - 199 - 9999, 0);
        Check.due(y, "trees(0, 99)", y.trees(0, 99), 9999, 0);
    }

    /** "each downwards by what was there the year ahead". */
    private static void eachDownwards() {
        // 149 by 7: 10.43 grow; 2.98 go.
        StoneWalk x = land(149, 7, 50, story('s', "felled 3") + story('u', "rats 33")
            + story('f', "fires 33 every 1") + story('h', "felled 0"));
        Check.due(x, "without a cause", x.trees(3, 1), 149 + 10 - 2, 0);
        Check.due(x, "1.5 felled", x.trees(0, 1), 149 + 10 - 2 - 1, 0);
        Check.due(x, "6.7 of 10 by rats", x.trees(1, 1), 149 + 6 - 2, 0);
        Check.due(x, "49.17 by fires", x.trees(2, 1), 149 + 10 - 2 - 49, 0);
    }

    /** Promise 38: "(year 0 .. 99, trees 0 .. 9,999, off 0 .. 999)". */
    private static void seenBounds() {
        StoneWalk x = land(100, 4, 50, story('s', "felled 10"));
        int[][] right = {{0, 0, 0}, {99, 0, 0}, {0, 9999, 0}, {0, 0, 999}, {99, 9999, 999}, {1, 1, 1}};
        for (int i = 0; i < right.length; i++) {
            Check.due(x, "see() " + i, x.see(right[i][0], right[i][1], right[i][2]), i + 1, 0);
        }
        int[][] wrong = {{-1, 0, 0}, {100, 0, 0}, {0, -1, 0}, {0, 10000, 0}, {0, 0, -1}, {0, 0, 1000}};
        for (int[] w : wrong) {
            Check.due(x, "see(" + w[0] + ", " + w[1] + ", " + w[2] + ")", x.see(w[0], w[1], w[2]), -1,
                Check.NUMBER);
            Check.due("size(7)", x.size(7), right.length);
        }
    }

    /** "SEEN, up to 12"; by 3 behind that, by 2 ahead of 3. */
    private static void twelveSeen() {
        StoneWalk x = land(100, 0, 0, story('s', "felled 0"));
        for (int i = 1; i <= 12; i++) {
            Check.due(x, "see() " + i, x.see(0, 100, 0), i, 0);
            Check.due("size(7)", x.size(7), i);
        }
        Check.due(x, "fits() of twelve", x.fits(), 1, 0);
        for (int i = 0; i < 3; i++) {
            Check.due(x, "see() of no room", x.see(0, 0, 0), -1, Check.NO_ROOM);
            Check.due(x, "see() of a bad number", x.see(100, 0, 0), -1, Check.NUMBER);
            Check.due("size(7)", x.size(7), 12);
            Check.due(x, "fits() of twelve still", x.fits(), 1, 0);
        }
        // The twelfth counts.
        StoneWalk y = land(100, 0, 0, story('s', "felled 0"));
        for (int i = 1; i <= 12; i++) {
            y.see(0, i < 12 ? 100 : 0, 0);
        }
        Check.due(y, "fits() of the twelfth", y.fits(), 0, 0);
    }

    /** Promise 39: "Nothing is SEEN any more: how many there were": 12, 1, 0. */
    private static void forgotten() {
        for (int many : new int[] {0, 1, 11, 12}) {
            StoneWalk x = land(100, 0, 0, story('s', "felled 0"));
            for (int i = 0; i < many; i++) {
                x.see(0, 0, 0);
            }
            Check.due(x, "fits() of " + many, x.fits(), many == 0 ? 1 : 0, 0);
            Check.due("forget() of " + many, x.forget(), many);
            Check.due("size(7)", x.size(7), 0);
            Check.due("forget() again", x.forget(), 0);
            Check.due(x, "fits() behind it", x.fits(), 1, 0);
            Check.due(x, "see() behind it", x.see(0, 100, 0), 1, 0);
            Check.due(x, "fits() of one", x.fits(), 1, 0);
        }
        Check.due("forget() of a new object", new StoneWalk().forget(), 0);
    }

    /** Promise 38 asks for an ISLAND, not for land. */
    private static void seenWithoutLand() {
        StoneWalk x = Check.told(LEAST);
        Check.due(x, "see() without land", x.see(0, 0, 0), 1, 0);
        Check.due(x, "fits() without land", x.fits(), -1, Check.NOTHING);
        Check.due("forget() without land", x.forget(), 1);
    }

    private static final String FIVE = story('s', "felled 0") + story('u', "felled 1")
        + story('v', "felled 2") + story('x', "felled 3") + story('y', "felled 4");

    /** Nothing SEEN: all agree. */
    private static void fitsWithoutSight() {
        StringBuilder stories = new StringBuilder();
        for (int many = 0; many <= 5; many++) {
            StoneWalk x = land(100, 2, 100, stories.toString());
            Check.due(x, "fits() of " + many, x.fits(), (1 << many) - 1, 0);
            Check.due(x, "weight() of " + many, x.weight(), many, 0);
            stories.append(story((char) ('b' + many), "rats 1"));
        }
    }

    /** "how far off they may be": just so far, and one further, to both sides. */
    private static void fitsAsFarOff() {
        // In the year 1: 100, 99, 98, 97, 96.
        for (int trees = 90; trees <= 106; trees++) {
            for (int off = 0; off <= 10; off += 2) {
                StoneWalk x = land(100, 2, 100, FIVE);
                x.see(1, trees, off);
                int due = 0;
                for (int story = 0; story < 5; story++) {
                    int away = 100 - story - trees;
                    due |= (away < 0 ? -away : away) <= off ? 1 << story : 0;
                }
                Check.due(x, "fits() of " + trees + " off " + off, x.fits(), due, 0);
                Check.due(x, "weight() of it", x.weight(), Integer.bitCount(due), 0);
            }
        }
        StoneWalk far = land(999, 50, 0, story('s', "rats 0") + story('u', "rats 100"));
        far.see(6, 9000, 999);
        Check.due(far, "999 off of 9,999", far.fits(), 1, 0);
        far.see(6, 8999, 999);
        Check.due(far, "1,000 off of 9,999", far.fits(), 0, 0);
    }

    /** "STORIES that agree with all". */
    private static void fitsAll() {
        StoneWalk x = land(100, 2, 100, FIVE);
        x.see(1, 98, 2);
        Check.due(x, "fits() of one", x.fits(), 0b11111, 0);
        x.see(1, 100, 2);
        Check.due(x, "fits() of two", x.fits(), 0b00111, 0);
        x.see(1, 96, 3);
        Check.due(x, "fits() of three", x.fits(), 0b00110, 0);
        x.see(0, 100, 0);
        Check.due(x, "fits() of four", x.fits(), 0b00110, 0);
        x.see(0, 99, 0);
        Check.due(x, "fits() of five", x.fits(), 0, 0);
        Check.due(x, "weight() of none", x.weight(), 0, 0);
        // The year counts: a year later 100, 98, 96, 94, 92.
        x.forget();
        x.see(2, 94, 0);
        Check.due(x, "fits() of the year 2", x.fits(), 0b01000, 0);
        x.forget();
        x.see(99, 100, 0);
        Check.due(x, "fits() of the year 99", x.fits(), 1, 0);
    }

    /** WEIGHT: "weighs of these": 1 .. 99 of each. */
    private static void weightOfThose() {
        StoneWalk x = land(100, 2, 100, ";story s weighs 99 felled 0;story u weighs 1 felled 1"
            + ";story v weighs 50 felled 2");
        Check.due(x, "weight() of all", x.weight(), 150, 0);
        x.see(1, 99, 0);
        Check.due(x, "weight() of the second", x.weight(), 1, 0);
        x.forget();
        x.see(1, 100, 1);
        Check.due(x, "weight() of two", x.weight(), 100, 0);
        x.see(1, 50, 0);
        Check.due(x, "weight() of none", x.weight(), 0, 0);
    }

    /** GONE: "the first year with fewer than 10"; "-2 if they aren't". */
    private static void goneBelowTen() {
        int[] trees = {0, 9, 10, 11};
        int[] due = {0, 0, -2, -2};
        for (int i = 0; i < trees.length; i++) {
            StoneWalk x = land(trees[i], 0, 0, story('s', "felled 0"));
            Check.due(x, "gone(0) of " + trees[i], x.gone(0), due[i], 0);
        }
        // One goes each year: 9 in the year 2 of 11.
        StoneWalk y = land(11, 0, 100, story('s', "felled 1"));
        Check.due(y, "trees(0, 1)", y.trees(0, 1), 10, 0);
        Check.due(y, "gone(0)", y.gone(0), 2, 0);
        // Gone in a fire, though ten come back: 10, 15, 7, 10.
        StoneWalk z = land(10, 50, 0, story('f', "fires 100 every 2"));
        Check.due(z, "trees(0, 2)", z.trees(0, 2), 7, 0);
        Check.due(z, "trees(0, 3)", z.trees(0, 3), 10, 0);
        Check.due(z, "gone(0) of a fire", z.gone(0), 2, 0);
    }

    /** In the year 99, and not before the last one. */
    private static void goneInTheLastYear() {
        String one = story('s', "felled 1");
        // As many grow as go, and one is felled each year: of 108 there are 9 in the year 99.
        for (int start = 100; start <= 200; start++) {
            StoneWalk x = land(start, 2, 100, one);
            int gone = -2;
            for (int year = 0; year < 100 && gone == -2; year++) {
                gone = x.trees(0, year) < 10 ? year : -2;
            }
            Check.due(x, "gone(0) of " + start, x.gone(0), gone, 0);
            Check.due("whether they go of " + start, gone, start <= 108 ? start - 9 : -2);
        }
    }

    /** Promise 43: "the first such": of years alike, and of none that differs. */
    private static void digFirst() {
        StoneWalk x = land(49, 0, 0, story('s', "felled 0") + story('f', "fires 50 every 50"));
        Check.due(x, "dig() of a fire", x.dig(), 50, 0);
        StoneWalk y = land(49, 0, 0, story('s', "felled 0") + story('f', "fires 3 every 33"));
        // 1 each in 33 and 66 and 99.
        Check.due(y, "dig() of fires", y.dig(), 99, 0);
        StoneWalk z = land(100, 2, 100, story('s', "felled 1") + story('u', "felled 1"));
        Check.due(z, "dig() of two alike", z.dig(), 0, 0);
        StoneWalk u = land(10, 0, 100, story('s', "felled 9") + story('u', "felled 10"));
        // 1 to 0, and 0 to 0 behind that.
        Check.due(u, "dig() of the year 1", u.dig(), 1, 0);
    }

    /** Of one that fits nothing differs. */
    private static void digOfOne() {
        StoneWalk x = land(100, 2, 100, story('s', "felled 1") + story('u', "felled 9"));
        Check.yes(x, "dig() of two", x.dig() > 0);
        x.see(1, 99, 0);
        Check.due(x, "fits()", x.fits(), 1, 0);
        Check.due(x, "dig() of one", x.dig(), 0, 0);
    }

    /** Promise 43: "6 (no land, no FITS)". */
    private static void digOfNone() {
        StoneWalk x = land(100, 2, 100, story('s', "felled 1"));
        x.see(0, 99, 0);
        Check.due(x, "fits()", x.fits(), 0, 0);
        Check.due(x, "dig() of none", x.dig(), -1, Check.NOTHING);
        StoneWalk y = land(100, 2, 100, "");
        Check.due(y, "dig() without stories", y.dig(), -1, Check.NOTHING);
        StoneWalk z = Check.told(LEAST + FIVE);
        Check.due(z, "dig() without land", z.dig(), -1, Check.NOTHING);
        Check.due(z, "fits() without land", z.fits(), -1, Check.NOTHING);
        Check.due(z, "weight() without land", z.weight(), -1, Check.NOTHING);
        Check.due(z, "gone(0) without land", z.gone(0), -1, Check.NOTHING);
        Check.due(z, "gone(5) without land", z.gone(5), -1, Check.NO_SUCH);
    }

    /** Promise 43: "(the greatest less the least)", of those that fit alone. */
    private static void digGreatestLessLeast() {
        String stories = story('s', "felled 0") + story('f', "fires 20 every 9") + story('h', "rats 70")
            + story('i', "fires 90 every 40");
        StoneWalk x = land(300, 5, 0, stories);
        for (int fitting : new int[] {0b1111, 0b0111, 0b1011}) {
            x.forget();
            if (fitting == 0b0111) {
                x.see(40, x.trees(2, 40), 999);
                x.see(40, x.trees(1, 40) + x.trees(0, 40), x.trees(0, 40));
            }
            int fits = x.fits();
            Check.due(x, "dig() of " + fits, x.dig(), widest(stories, fits), 0);
        }
        // Those that don't fit part in other years.
        x.forget();
        x.see(9, x.trees(0, 9), 5);
        Check.due(x, "dig() of " + x.fits(), x.dig(), widest(stories, x.fits()), 0);
        Check.yes(x, "fits() of some", x.fits() != 0 && x.fits() != 0b1111);
    }

    private static int widest(String stories, int fits) {
        int year = 0;
        int most = 0;
        StoneWalk[] each = new StoneWalk[4];
        for (int i = 0; i < 4; i++) {
            each[i] = land(300, 5, 0, stories);
        }
        for (int y = 0; y < 100; y++) {
            int least = Integer.MAX_VALUE;
            int greatest = 0;
            for (int i = 0; i < 4; i++) {
                if ((fits >> i & 1) == 1) {
                    least = Math.min(least, each[i].trees(i, y));
                    greatest = Math.max(greatest, each[i].trees(i, y));
                }
            }
            if (greatest - least > most) {
                most = greatest - least;
                year = y;
            }
        }
        return year;
    }

    /** Land without a story: what is asked of all is of none. */
    private static void withoutStories() {
        StoneWalk x = land(100, 2, 100, "");
        Check.due(x, "fits()", x.fits(), 0, 0);
        Check.due(x, "weight()", x.weight(), 0, 0);
        Check.due(x, "trees(0, 0)", x.trees(0, 0), -1, Check.NO_SUCH);
        Check.due(x, "gone(0)", x.gone(0), -1, Check.NO_SUCH);
    }

    private static void lived(int fields, int feeds, int houses, int least, int most) {
        StoneWalk x = Check.told(LEAST + ";fields " + fields + " feeds " + feeds + ";houses " + houses
            + " holds " + least + " to " + most);
        String what = fields + " by " + feeds + ", " + houses + " of " + least + " to " + most;
        Check.due(x, "lived(true) of " + what, x.lived(true), Math.min(fields * feeds, houses * most), 0);
        Check.due(x, "lived(false) of " + what, x.lived(false),
            Math.min(fields * feeds, houses * least), 0);
    }

    /** LIVED: "at most fields times feeds, or houses times what they hold at most, whichever is less". */
    private static void livedWhicheverIsLess() {
        for (int feeds : new int[] {49, 50, 51}) {
            StoneWalk x = Check.told(LEAST + ";fields 1 feeds " + feeds + ";houses 5 holds 4 to 10");
            Check.due(x, "lived(true) of " + feeds, x.lived(true), Math.min(feeds, 50), 0);
        }
        lived(999, 99, 999, 20, 40);
        lived(0, 99, 999, 20, 40);
        lived(999, 0, 999, 20, 40);
        lived(999, 99, 0, 20, 40);
        lived(999, 99, 999, 0, 0);
        lived(0, 0, 0, 0, 0);
        lived(1, 1, 1, 0, 1);
    }

    /** "at least that by what they hold at least": the fields still bound it. */
    private static void livedAtLeast() {
        for (int feeds : new int[] {19, 20, 21}) {
            StoneWalk x = Check.told(LEAST + ";fields 1 feeds " + feeds + ";houses 5 holds 4 to 10");
            Check.due(x, "lived(false) of " + feeds, x.lived(false), Math.min(feeds, 20), 0);
        }
        lived(10, 6, 5, 4, 4);
        lived(3, 6, 5, 4, 40);
    }

    /** Promise 44: "6 (no fields, or no houses)". */
    private static void livedWithout() {
        String[] texts = {"", ";fields 1 feeds 1", ";houses 1 holds 1 to 1", ";land trees 1 grows 1 people 1"};
        for (String text : texts) {
            StoneWalk x = Check.told(LEAST + text);
            Check.due(x, "lived(true) of" + text, x.lived(true), -1, Check.NOTHING);
            Check.due(x, "lived(false) of" + text, x.lived(false), -1, Check.NOTHING);
        }
        StoneWalk y = Check.told(LEAST + texts[1] + texts[2]);
        Check.due(y, "lived(true) without land", y.lived(true), 1, 0);
        StoneWalk none = new StoneWalk();
        Check.due(none, "lived(true) without an island", none.lived(true), -1, Check.NO_SUCH);
        Check.due(none, "lived(false) without an island", none.lived(false), -1, Check.NO_SUCH);
    }
}
