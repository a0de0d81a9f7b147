/** The MOVE of Term II, promises 14 to 21: a test of each sentence that names a bound or an edge. */
public final class MoveEdgeTest {
    private static final int WALKED = 0;
    private static final int SLED = 1;
    private static final int ROLLED = 2;
    private static final int DRAGGED = 3;

    /** A road for each grade, of one SLOPE; one of six; one that ends too steep. */
    private static final String ISLAND =
        "way w walked weighs 1 pull 10;way l sled weighs 1 pull 10;way k rolled weighs 1 pull 10;"
        + "way g dragged weighs 1 pull 10;";
    private static final String[] GRADES = {"down 2", "up 0", "up 2"};
    private static final String STONES =
        ";statue a tons 10 lean 12 edge 4 cut;statue b tons 10 lean 12 edge 10 stood";

    private static final int A = 0;
    private static final int B = 1;

    public static void main(String[] args) {
        seedBounds();
        drawOfASeed();
        peopleOfAMove();
        fewestPeople();
        stuckIsNothingElse();
        stuckBeforeShort();
        fallsBelowChance();
        howItLies();
        noDrawWithoutChance();
        drawsOfAStep();
        thereBehindTheLast();
        mostMinutes();
        goesOnNoMore();
        calls();
        callOfAShortOne();
        atEdges();
        inPlaceOfAnother();
        triesBounds();
        triesAsTheMoveWouldBegin();
        triesOneBehindTheOther();
        imageOfEachState();
        imageSeed();
        imageTold();
        imagePlace();
        imageMinutes();
        imageLie();
        imageParts();
        imagePeople();
        imageOfNone();
        woodOfThePlace();
        restoredGoesOn();
        Check.end("MoveEdgeTest");
    }

    private static StoneWalk along(String slopes) {
        return Check.told(ISLAND + "road r hollow 1 slopes " + slopes + STONES);
    }

    private static int draw(int seed) {
        return (int) ((75L * seed + 74) % 65537);
    }

    /** A seed whose first draw leaves so much of a hundred, and the second of ten (-1: any). */
    private static int seedFor(int ofHundred, int ofTen) {
        for (int seed = 0; seed < 65536; seed++) {
            int first = draw(seed);
            if (first % 100 == ofHundred && (ofTen < 0 || draw(first) % 10 == ofTen)) {
                return seed;
            }
        }
        Check.due("a seed for " + ofHundred + " and " + ofTen, 0, 1);
        return 0;
    }

    private static void state(StoneWalk x, String what, int... due) {
        for (int i = 0; i < due.length; i++) {
            Check.due(x, "at(" + i + ") " + what, x.at(i), due[i], 0);
        }
    }

    /** Promise 14: "(0 .. 65,536)". */
    private static void seedBounds() {
        StoneWalk x = along("up 0");
        Check.due("the first seed", x.size(8), 0);
        for (int seed : new int[] {0, 1, 65535, 65536}) {
            Check.yes(x, "seed(" + seed + ")", x.seed(seed));
            Check.due("size(8)", x.size(8), seed);
            for (int none : new int[] {-1, 65537, Integer.MIN_VALUE, Integer.MAX_VALUE}) {
                Check.no(x, "seed(" + none + ")", x.seed(none), Check.NUMBER);
                Check.due("size(8) stays", x.size(8), seed);
            }
        }
    }

    /** "SEED becomes (75 times SEED and 74) mod 65,537": round the edge, too. */
    private static void drawOfASeed() {
        StoneWalk x = along("up 1,up 1,up 1,up 1,up 1,up 1");
        // 75 times 873 and 74 is below 65,537, of 874 it isn't; 65,536 stays.
        int[] seeds = {0, 1, 2, 872, 873, 874, 875, 1747, 32768, 65534, 65535, 65536};
        int[] due = {74, 149, 224, 65474, 12, 87, 162, 25, 32805, 65386, 65461, 65536};
        for (int i = 0; i < seeds.length; i++) {
            x.seed(seeds[i]);
            x.move(B, SLED, 0, 200);
            x.step();
            boolean fell = x.at(0) == 3;
            Check.due("seed behind " + seeds[i], x.size(8), fell ? draw(due[i]) : due[i]);
            Check.due("a fall behind " + seeds[i], fell, due[i] % 100 < 1);
        }
    }

    /** Promise 15: "2 (people 1 .. 200)". */
    private static void peopleOfAMove() {
        StoneWalk x = along("up 0");
        for (int people : new int[] {1, 2, 199, 200}) {
            Check.yes(x, "move() with " + people, x.move(A, WALKED, 0, people));
            Check.due(x, "at(8)", x.at(8), people, 0);
        }
        for (int people : new int[] {0, 201, -1, Integer.MIN_VALUE, Integer.MAX_VALUE}) {
            Check.no(x, "move() with " + people, x.move(A, WALKED, 0, people), Check.NUMBER);
            Check.due(x, "at(8) stays", x.at(8), 200, 0);
        }
    }

    /** "if people are fewer than NEED it is SHORT (nothing else then)". */
    private static void fewestPeople() {
        int[] need = {10, 20, 10, 30};
        int[] base = {40, 60, 30, 90};
        int[] wood = {0, 20, 40, 10};
        for (int way = 0; way < 4; way++) {
            StoneWalk x = along("up 0");
            x.seed(99);
            Check.due(x, "need", x.need(way, B, 0), need[way], 0);
            x.move(B, way, 0, need[way] - 1);
            Check.due(x, "step() of one too few", x.step(), 5, 0);
            state(x, "of one too few", 5, 0, 0, 0, -2, B, way, 0, need[way] - 1);
            Check.due("no draw", x.size(8), 99);
            x.move(B, way, 0, need[way]);
            Check.due(x, "step() of enough", x.step(), 2, 0);
            state(x, "of enough", 2, 1, base[way], wood[way], -2, B, way, 0, need[way]);
        }
        // SHORT where it would fall: no draw.
        StoneWalk y = along("up 2");
        int seed = seedFor(0, -1);
        y.seed(seed);
        y.move(A, WALKED, 0, 10);
        Check.due(y, "step() of one too few, up", y.step(), 5, 0);
        Check.due("no draw, up", y.size(8), seed);
        y.call(11);
        Check.due(y, "step() of enough, up", y.step(), 3, 0);
    }

    /** "if it can't go on its SLOPE it is STUCK". */
    private static void stuckIsNothingElse() {
        String[] slopes = {"up 7", "up 9", "up 6", "up 13"};
        String[] fine = {"up 6", "up 8", "up 5", "up 12"};
        int seed = seedFor(99, -1);
        for (int way = 0; way < 4; way++) {
            StoneWalk x = along(slopes[way]);
            x.seed(seed);
            x.move(A, way, 0, 200);
            Check.due(x, "step() on " + slopes[way], x.step(), 4, 0);
            state(x, "on " + slopes[way], 4, 0, 0, 0, -2, A, way, 0, 200);
            Check.due("no draw on " + slopes[way], x.size(8), seed);
            StoneWalk y = along(fine[way] + "," + slopes[way]);
            y.seed(seed);
            y.move(A, way, 0, 200);
            Check.due(y, "step() on " + fine[way], y.step(), 1, 0);
            int behind = y.size(8);
            int minutes = y.at(2);
            Check.due(y, "step() on the next", y.step(), 4, 0);
            Check.due(y, "its place", y.at(1), 1, 0);
            Check.due(y, "its minutes", y.at(2), minutes, 0);
            Check.due("its seed", y.size(8), behind);
        }
    }

    /** STUCK is asked first. */
    private static void stuckBeforeShort() {
        StoneWalk x = along("up 9");
        x.move(A, SLED, 0, 1);
        Check.due(x, "step() of both", x.step(), 4, 0);
        Check.no(x, "call() of both", x.call(200), Check.NOT_SO);
        StoneWalk y = along("up 8");
        y.move(A, SLED, 0, 1);
        Check.due(y, "step() of one too few", y.step(), 5, 0);
    }

    /** "it FALLS if a draw mod 100 is below CHANCE". */
    private static void fallsBelowChance() {
        int[] chance = {10, 2, 6};
        for (int way = WALKED; way <= ROLLED; way++) {
            for (int of = 0; of < 100; of += of == chance[way] + 1 ? 98 - of : 1) {
                StoneWalk x = along("up 2");
                int seed = seedFor(of, -1);
                x.seed(seed);
                x.move(A, way, 0, 200);
                boolean falls = of < chance[way];
                String what = "by way " + way + ", a draw of " + of;
                Check.due(x, "step() " + what, x.step(), falls ? 3 : 2, 0);
                Check.due(x, "the place " + what, x.at(1), falls ? 0 : 1, 0);
                Check.due("the seed " + what, x.size(8), falls ? draw(draw(seed)) : draw(seed));
            }
        }
    }

    /** "how it lies by another draw mod 10, face first, then back, else side". */
    private static void howItLies() {
        String[][] lies = {
            {"0000000012", "0000111122", "0011111112"},
            {"0011222222", "", "0011222222"},
            {"0001122222", "", "0011122222"},
        };
        for (int way = WALKED; way <= ROLLED; way++) {
            for (int grade = 0; grade < 3; grade++) {
                for (int ten = 0; ten < lies[way][grade].length(); ten++) {
                    StoneWalk x = along(GRADES[grade]);
                    x.seed(seedFor(1, ten));
                    x.move(A, way, 0, 200);
                    String what = "by way " + way + ", " + GRADES[grade] + ", a draw of " + ten;
                    Check.due(x, "step() " + what, x.step(), 3, 0);
                    Check.due(x, "how it lies " + what, x.at(4), lies[way][grade].charAt(ten) - '0', 0);
                }
            }
        }
    }

    /** "(no draw if that is 0)". */
    private static void noDrawWithoutChance() {
        StoneWalk x = along("up 0");
        for (int way = 0; way < 4; way++) {
            // Of edge 10 walked on a level, and the others there.
            x.seed(7);
            x.move(B, way, 0, 200);
            Check.due(x, "step() on a level", x.step(), 2, 0);
            Check.due("the seed on a level", x.size(8), 7);
        }
        // Edge 9 is one of a hundred.
        StoneWalk y = Check.told(ISLAND + "road r hollow 1 slopes up 0;statue a tons 1 lean 12 edge 9 cut");
        y.seed(7);
        y.move(0, WALKED, 0, 200);
        y.step();
        Check.due("the seed with edge 9", y.size(8), draw(7));
        for (String slope : new String[] {"up 1", "down 1"}) {
            StoneWalk z = along(slope);
            for (int way = 0; way < 4; way++) {
                z.seed(7);
                z.move(B, way, 0, 200);
                z.step();
                Check.due("the seed " + slope + " by way " + way, z.size(8),
                    way == DRAGGED ? 7 : draw(7));
            }
        }
        StoneWalk u = along("down 20");
        u.seed(7);
        u.move(A, DRAGGED, 0, 200);
        Check.due(u, "step() dragged down 20", u.step(), 2, 0);
        Check.due("the seed dragged down 20", u.size(8), 7);
    }

    /** One draw for each STEP with a CHANCE, another one if it FALLS. */
    private static void drawsOfAStep() {
        StoneWalk x = along("up 1,up 0,up 2,down 1");
        int seed = 3;
        x.seed(seed);
        x.move(B, SLED, 0, 200);
        boolean[] draws = {true, false, true, true};
        for (int i = 0; i < 4; i++) {
            Check.due(x, "step() " + i, x.step(), i < 3 ? 1 : 2, 0);
            seed = draws[i] ? draw(seed) : seed;
            Check.due("seed behind step " + i, x.size(8), seed);
        }
    }

    /** "behind the last it is THERE": of one SLOPE and of six. */
    private static void thereBehindTheLast() {
        StringBuilder slopes = new StringBuilder("up 0");
        for (int many = 1; many <= 6; many++) {
            StoneWalk x = along(slopes.toString());
            x.move(B, DRAGGED, 0, 30);
            for (int i = 1; i <= many; i++) {
                Check.due(x, "step " + i + " of " + many, x.step(), i < many ? 1 : 2, 0);
                Check.due(x, "place behind it", x.at(1), i, 0);
                Check.due(x, "minutes behind it", x.at(2), 90 * i, 0);
                Check.due(x, "wood behind it", x.at(3), 10 * i, 0);
            }
            Check.due(x, "a step more", x.step(), -1, Check.NOT_SO);
            Check.due(x, "its place", x.at(1), many, 0);
            slopes.append(",up 0");
        }
    }

    /** The MINUTES of a MOVE are 540 at most, below the 541 of an image. */
    private static void mostMinutes() {
        StoneWalk x = Check.told(ISLAND + "road r hollow 1 slopes up 0,up 0,up 0,up 0,up 0,up 0"
            + ";statue a tons 20 lean 1 edge 1 cut");
        x.seed(65536);
        x.move(0, DRAGGED, 0, 60);
        for (int i = 0; i < 6; i++) {
            x.step();
        }
        state(x, "of the most minutes", 2, 6, 540, 120, -2, 0, DRAGGED, 0, 60);
        long due = RefusalTest.image(65536, 2, 6, 540, 3, 0, 3, 0, 60);
        Check.due(x, "its image", x.image(), due, 0);
        Check.yes(x, "restore() of it", x.restore(due));
        state(x, "of the most minutes restored", 2, 6, 540, 120, -2, 0, DRAGGED, 0, 60);
    }

    /** Promise 16: "5 (it doesn't go on any more)"; a refused STEP changes nothing. */
    private static void goesOnNoMore() {
        State[] over = {State.THERE, State.FELL, State.STUCK, State.SHORT};
        for (State s : over) {
            StoneWalk x = s.make();
            int seed = x.size(8);
            for (int i = 0; i < 3; i++) {
                Check.due(x, "step() " + i + " in state " + s, x.step(), -1, Check.NOT_SO);
            }
            Check.due("the seed in state " + s, x.size(8), seed);
            Check.same("state " + s, State.show(x), State.show(s.make()));
        }
    }

    /** Promise 17: people 1 .. 200; "5 (it is over otherwise)". */
    private static void calls() {
        for (int people : new int[] {1, 2, 199, 200}) {
            StoneWalk x = along("up 0,up 0");
            x.move(B, DRAGGED, 0, 30);
            Check.yes(x, "call() ahead of any step", x.call(people));
            state(x, "called", 1, 0, 0, 0, -2, B, DRAGGED, 0, people);
            Check.due(x, "step()", x.step(), people < 30 ? 5 : 1, 0);
            Check.yes(x, "call() behind a step", x.call(people));
            Check.due(x, "at(0) behind call()", x.at(0), 1, 0);
            Check.due(x, "at(8) behind call()", x.at(8), people, 0);
        }
        State[] over = {State.THERE, State.FELL, State.STUCK};
        for (State s : over) {
            StoneWalk x = s.make();
            Check.no(x, "call(1) in state " + s, x.call(1), Check.NOT_SO);
            Check.no(x, "call(0) in state " + s, x.call(0), Check.NUMBER);
            Check.no(x, "call(201) in state " + s, x.call(201), Check.NUMBER);
        }
    }

    /** Promise 17: "a SHORT one goes on", if they are enough then. */
    private static void callOfAShortOne() {
        StoneWalk x = along("up 0,up 4");
        x.move(B, DRAGGED, 0, 29);
        Check.due(x, "step() with 29", x.step(), 5, 0);
        for (int i = 0; i < 2; i++) {
            Check.yes(x, "call(29)", x.call(29));
            Check.due(x, "at(0) behind call()", x.at(0), 1, 0);
            Check.due(x, "step() with 29 again", x.step(), 5, 0);
        }
        Check.yes(x, "call(30)", x.call(30));
        Check.due(x, "step() with 30", x.step(), 1, 0);
        Check.due(x, "step() up 4 with 30", x.step(), 5, 0);
        Check.yes(x, "call(35)", x.call(35));
        Check.due(x, "step() up 4 with 35", x.step(), 5, 0);
        Check.yes(x, "call(36)", x.call(36));
        Check.due(x, "step() up 4 with 36", x.step(), 2, 0);
        state(x, "behind all", 2, 2, 180, 20, -2, B, DRAGGED, 0, 36);
    }

    /** Promise 18: what 0 .. 8; "1 ahead of any"; "-2 if it didn't fall". */
    private static void atEdges() {
        for (State s : State.values()) {
            StoneWalk x = s.make();
            for (int what : new int[] {-1, 9, Integer.MIN_VALUE, Integer.MAX_VALUE}) {
                Check.due(x, "at(" + what + ") in state " + s, x.at(what), -1, Check.NO_SUCH);
            }
            if (s.hasMove()) {
                Check.due(x, "how it lies in state " + s, x.at(4), s == State.FELL ? 1 : -2, 0);
                Check.yes(x, "at(8) in state " + s, x.at(8) > 0);
            } else {
                Check.due(x, "at(0) in state " + s, x.at(0), -1, Check.NOTHING);
                Check.due(x, "at(8) in state " + s, x.at(8), -1, Check.NOTHING);
            }
        }
    }

    /** Promise 15: "A MOVE begins, in place of another": nothing of that is left but SEED. */
    private static void inPlaceOfAnother() {
        for (State s : State.values()) {
            if (!s.hasMove()) {
                continue;
            }
            StoneWalk x = s.make();
            int seed = x.size(8);
            Check.yes(x, "move() in state " + s, x.move(1, SLED, 1, 77));
            state(x, "in state " + s, 1, 0, 0, 0, -2, 1, SLED, 1, 77);
            Check.due("the seed in state " + s, x.size(8), seed);
        }
    }

    /** Promise 19: "n MOVES (1 .. 100)". */
    private static void triesBounds() {
        StoneWalk x = along("up 0");
        x.move(B, DRAGGED, 0, 30);
        for (int n : new int[] {1, 2, 99, 100}) {
            Check.due(x, "tries(" + n + ")", x.tries(n), n, 0);
        }
        for (int n : new int[] {0, -1, 101, Integer.MIN_VALUE, Integer.MAX_VALUE}) {
            Check.due(x, "tries(" + n + ")", x.tries(n), -1, Check.NUMBER);
        }
        x.call(29);
        Check.due(x, "tries(100) of a short one", x.tries(100), 0, 0);
        state(x, "behind tries()", 1, 0, 0, 0, -2, B, DRAGGED, 0, 29);
        StoneWalk y = along("up 0,up 13");
        y.move(B, DRAGGED, 0, 200);
        Check.due(y, "tries(100) of a stuck one", y.tries(100), 0, 0);
        state(y, "behind tries()", 1, 0, 0, 0, -2, B, DRAGGED, 0, 200);
    }

    /** Promise 19: "as the MOVE would begin", whatever it is now; "(the MOVE stays ..)". */
    private static void triesAsTheMoveWouldBegin() {
        for (State s : State.values()) {
            if (!s.hasMove()) {
                continue;
            }
            StoneWalk x = s.make();
            StoneWalk twin = s.make();
            twin.move(twin.at(5), twin.at(6), twin.at(7), twin.at(8));
            int[] was = new int[9];
            for (int what = 0; what <= 8; what++) {
                was[what] = x.at(what);
            }
            Check.due(x, "tries(9) in state " + s, x.tries(9), twin.tries(9), 0);
            Check.due("the seed in state " + s, x.size(8), twin.size(8));
            state(x, "behind tries() in state " + s, was);
        }
    }

    /** Promise 19: "one behind the other .. SEED goes on". */
    private static void triesOneBehindTheOther() {
        String slopes = "up 5,down 2,up 5";
        for (int way = 0; way < 4; way++) {
            for (int seed = 0; seed < 65537; seed += 13107) {
                StoneWalk x = along(slopes);
                x.seed(seed);
                x.move(A, way, 0, 200);
                StoneWalk twin = along(slopes);
                twin.seed(seed);
                int there = 0;
                for (int i = 0; i < 40; i++) {
                    twin.move(A, way, 0, 200);
                    int told = 1;
                    while (told == 1) {
                        told = twin.step();
                    }
                    there += told == 2 ? 1 : 0;
                }
                String what = "by way " + way + " from " + seed;
                Check.due(x, "tries(40) " + what, x.tries(40), there, 0);
                Check.due("the seed " + what, x.size(8), twin.size(8));
                state(x, what, 1, 0, 0, 0, -2, A, way, 0, 200);
            }
        }
    }

    /** Promise 20: "The MOVE and SEED as one number", in each state of a MOVE. */
    private static void imageOfEachState() {
        for (State s : State.values()) {
            StoneWalk x = s.make();
            if (!s.hasMove()) {
                Check.due(x, "image() in state " + s, x.image(), -1, Check.NOTHING);
                continue;
            }
            int lie = x.at(4);
            long due = RefusalTest.image(x.size(8), x.at(0), x.at(1), x.at(2), lie == -2 ? 3 : lie,
                x.at(5), x.at(6), x.at(7), x.at(8));
            Check.due(x, "image() in state " + s, x.image(), due, 0);
            StoneWalk y = Check.told(State.WHOLE_TEXT);
            Check.yes(y, "restore() of state " + s, y.restore(due));
            Check.due(y, "image() of state " + s, y.image(), due, 0);
            for (int what = 0; what <= 8; what++) {
                Check.due("at(" + what + ") of state " + s, y.at(what), x.at(what));
            }
            Check.due("the seed of state " + s, y.size(8), x.size(8));
        }
    }

    /** An island with two SLOPES, two statues, two ways and two roads of the bounds of images. */
    private static StoneWalk small() {
        return Check.told("way g dragged weighs 1 pull 10;way l sled weighs 1 pull 10;"
            + "road r hollow 1 slopes up 0,up 0;road q hollow 1 slopes up 0"
            + STONES);
    }

    private static void taken(long image, boolean whether) {
        StoneWalk x = small();
        x.seed(5);
        x.move(1, 1, 1, 7);
        long was = x.image();
        Check.due(x, "restore(" + image + ")", x.restore(image) ? 1 : 0, whether ? 1 : 0,
            whether ? 0 : Check.NUMBER);
        Check.due(x, "image() behind restore(" + image + ")", x.image(), whether ? image : was, 0);
    }

    /** "if SEED is 0 .. 65,536". */
    private static void imageSeed() {
        for (long seed : new long[] {0, 1, 65535, 65536}) {
            taken(RefusalTest.image(seed, 1, 0, 0, 3, 0, 0, 0, 1), true);
        }
        for (long seed : new long[] {-1, 65537, 65538, 131073, 1L << 31}) {
            taken(RefusalTest.image(seed, 1, 0, 0, 3, 0, 0, 0, 1), false);
        }
    }

    /** "TOLD 1 .. 5". */
    private static void imageTold() {
        for (int told = 0; told <= 5; told++) {
            int place = told == 2 ? 2 : 0;
            int lie = told == 3 ? 0 : 3;
            taken(RefusalTest.image(9, told, place, 0, lie, 0, 0, 0, 1), told != 0);
        }
    }

    /** "the place is that of a SLOPE (by TOLD 2 how many there are)". */
    private static void imagePlace() {
        for (int road = 0; road <= 1; road++) {
            int many = 2 - road;
            for (int told = 1; told <= 5; told++) {
                for (int place = 0; place <= 6; place++) {
                    int lie = told == 3 ? 2 : 3;
                    boolean due = told == 2 ? place == many : place < many;
                    taken(RefusalTest.image(9, told, place, 0, lie, 0, 0, road, 1), due);
                }
            }
        }
    }

    /** Any of 541. */
    private static void imageMinutes() {
        for (int minutes : new int[] {0, 1, 539, 540}) {
            taken(RefusalTest.image(9, 1, 0, minutes, 3, 0, 0, 0, 1), true);
            taken(RefusalTest.image(9, 1, 1, minutes, 3, 0, 0, 0, 1), true);
        }
    }

    /** "how it lies is 3 but by TOLD 3, and then not". */
    private static void imageLie() {
        for (int told = 1; told <= 5; told++) {
            for (int lie = 0; lie <= 3; lie++) {
                int place = told == 2 ? 2 : 1;
                taken(RefusalTest.image(9, told, place, 0, lie, 0, 0, 0, 1), told == 3 != (lie == 3));
            }
        }
    }

    /** "statue, WAY, ROAD are there". */
    private static void imageParts() {
        for (int statue = 0; statue <= 9; statue++) {
            taken(RefusalTest.image(9, 1, 0, 0, 3, statue, 0, 0, 1), statue < 2);
        }
        for (int way = 0; way <= 3; way++) {
            taken(RefusalTest.image(9, 1, 0, 0, 3, 0, way, 0, 1), way < 2);
        }
        for (int road = 0; road <= 2; road++) {
            taken(RefusalTest.image(9, 1, 0, 0, 3, 0, 0, road, 1), road < 2);
        }
    }

    /** "people 1 .. 200". */
    private static void imagePeople() {
        for (int people : new int[] {0, 1, 2, 199, 200}) {
            taken(RefusalTest.image(9, 1, 0, 0, 3, 0, 0, 0, people), people != 0);
        }
    }

    /** "none of this ISLAND": no number below 0, none beyond the greatest. */
    private static void imageOfNone() {
        long least = RefusalTest.image(0, 1, 0, 0, 3, 0, 0, 0, 1);
        taken(least, true);
        taken(-least, false);
        taken(0, false);
        taken(1, false);
        taken(-1, false);
        taken(Long.MIN_VALUE, false);
        taken(Long.MIN_VALUE + 1, false);
        taken(Long.MAX_VALUE, false);
        // It is of an island or none, and of another one perhaps not.
        long far = RefusalTest.image(0, 1, 1, 0, 3, 1, 1, 0, 1);
        taken(far, true);
        StoneWalk x = Check.told(Text.LEAST.replace(",down 2", ""));
        Check.no(x, "restore() in another island", x.restore(far), Check.NUMBER);
        Check.due(x, "at(0)", x.at(0), -1, Check.NOTHING);
        StoneWalk none = new StoneWalk();
        Check.no(none, "restore() without an island", none.restore(far), Check.NO_SUCH);
        Check.no(none, "restore(-1) without an island", none.restore(-1), Check.NO_SUCH);
    }

    /** "WOOD comes of the place (by TOLD 3 of one SLOPE more)". */
    private static void woodOfThePlace() {
        int[] wood = {0, 20, 40, 10};
        StoneWalk x = along("up 0,up 0,up 0");
        for (int way = 0; way < 4; way++) {
            for (int place = 0; place < 3; place++) {
                for (int told : new int[] {1, 3, 4, 5}) {
                    x.restore(RefusalTest.image(9, told, place, 5, told == 3 ? 1 : 3, A, way, 0, 9));
                    int due = wood[way] * (told == 3 ? place + 1 : place);
                    Check.due(x, "wood of told " + told + " at " + place, x.at(3), due, 0);
                }
            }
            x.restore(RefusalTest.image(9, 2, 3, 5, 3, A, way, 0, 9));
            Check.due(x, "wood of one that is there", x.at(3), wood[way] * 3, 0);
        }
    }

    /** An image is gone on from as the MOVE itself would be. */
    private static void restoredGoesOn() {
        for (int seed = 0; seed < 65537; seed += 6553) {
            StoneWalk x = along("up 5,down 2,up 5,down 1");
            x.seed(seed);
            x.move(A, ROLLED, 0, 100);
            for (int i = 0; i < 5; i++) {
                StoneWalk y = along("up 5,down 2,up 5,down 1");
                Check.yes(y, "restore()", y.restore(x.image()));
                int told = x.step();
                Check.due(y, "step() behind restore()", y.step(), told, told == -1 ? Check.NOT_SO : 0);
                Check.due(y, "image() behind it", y.image(), x.image(), 0);
                Check.due(y, "wood behind it", y.at(3), x.at(3), 0);
                Check.due(y, "tries(20) behind it", y.tries(20), scout(x), 0);
            }
        }
    }

    /** What tries(20) would answer, without that SEED goes on. */
    private static int scout(StoneWalk x) {
        StoneWalk y = along("up 5,down 2,up 5,down 1");
        y.restore(x.image());
        return y.tries(20);
    }
}
