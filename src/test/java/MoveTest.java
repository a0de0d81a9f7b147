/** Promises 14 to 21: seed, move, step, call, at, tries, image, restore. */
public final class MoveTest {
    // Dragged never falls, so its moves need no draw.
    private static final String ROADS =
        "way g dragged weighs 1 pull 10;way k rolled weighs 1 pull 10;way l sled weighs 1 pull 10;"
        + "way w walked weighs 1 pull 10;"
        + "road r hollow 1 slopes up 0,up 4,up 10;road q hollow 1 slopes up 0,up 13;"
        + "road s hollow 1 slopes down 1,up 5,up 5,up 5,up 5,up 5;"
        + "statue a tons 20 lean 12 edge 4 cut;statue b tons 10 lean 25 edge 20 stood";

    private static int seed;

    public static void main(String[] args) {
        seedOf();
        moveOf();
        there();
        stuckAndShort();
        fell();
        fallsEachWay();
        falls();
        noDraw();
        at();
        tries();
        image();
        restore();
        restoreRefused();
        withoutIsland();
        Check.end("MoveTest");
    }

    private static int draw() {
        seed = (75 * seed + 74) % 65537;
        return seed;
    }

    private static void seedOf() {
        StoneWalk x = Check.told(ROADS);
        Check.due("seed of a new island", x.size(8), 0);
        Check.yes(x, "seed(65536)", x.seed(65536));
        Check.due("size(8)", x.size(8), 65536);
        Check.no(x, "seed(65537)", x.seed(65537), Check.NUMBER);
        Check.no(x, "seed(-1)", x.seed(-1), Check.NUMBER);
        Check.due("size(8) stays", x.size(8), 65536);
        Check.yes(x, "seed(0)", x.seed(0));
        Check.due("size(8)", x.size(8), 0);
    }

    private static void moveOf() {
        StoneWalk x = Check.told(ROADS);
        Check.yes(x, "move(0, 0, 0, 1)", x.move(0, 0, 0, 1));
        Check.yes(x, "move(1, 3, 2, 200)", x.move(1, 3, 2, 200));
        Check.no(x, "move(2, 0, 0, 1)", x.move(2, 0, 0, 1), Check.NO_SUCH);
        Check.no(x, "move(0, 4, 0, 1)", x.move(0, 4, 0, 1), Check.NO_SUCH);
        Check.no(x, "move(0, 0, 3, 1)", x.move(0, 0, 3, 1), Check.NO_SUCH);
        Check.no(x, "move(-1, 0, 0, 1)", x.move(-1, 0, 0, 1), Check.NO_SUCH);
        Check.no(x, "move(0, -1, 0, 1)", x.move(0, -1, 0, 1), Check.NO_SUCH);
        Check.no(x, "move(0, 0, -1, 1)", x.move(0, 0, -1, 1), Check.NO_SUCH);
        Check.no(x, "move(0, 0, -1, 0)", x.move(0, 0, -1, 0), Check.NO_SUCH);
        Check.no(x, "move(0, 0, 0, 0)", x.move(0, 0, 0, 0), Check.NUMBER);
        Check.no(x, "move(0, 0, 0, 201)", x.move(0, 0, 0, 201), Check.NUMBER);
        state(x, 1, 0, 0, 0, -2, 1, 3, 2, 200);
    }

    private static void state(StoneWalk x, int... due) {
        for (int what = 0; what < due.length; what++) {
            Check.due(x, "at(" + what + ")", x.at(what), due[what], 0);
        }
    }

    private static void there() {
        StoneWalk x = Check.told(ROADS);
        x.seed(5);
        // Need 60, 72, 90; base 90.
        x.move(0, 0, 0, 90);
        Check.due(x, "step on the level", x.step(), 1, 0);
        state(x, 1, 1, 60, 20, -2, 0, 0, 0, 90);
        Check.due(x, "step up 4", x.step(), 1, 0);
        state(x, 1, 2, 132, 40, -2, 0, 0, 0, 90);
        Check.due(x, "step up 10", x.step(), 2, 0);
        state(x, 2, 3, 222, 60, -2, 0, 0, 0, 90);
        Check.due(x, "step behind the last", x.step(), -1, Check.NOT_SO);
        Check.no(x, "call behind the last", x.call(10), Check.NOT_SO);
        state(x, 2, 3, 222, 60, -2, 0, 0, 0, 90);
        Check.due("no draw without a chance", x.size(8), 5);
    }

    private static void stuckAndShort() {
        StoneWalk x = Check.told(ROADS);
        x.move(0, 0, 1, 100);
        x.step();
        Check.due(x, "step up 13", x.step(), 4, 0);
        state(x, 4, 1, 54, 20, -2, 0, 0, 1, 100);
        Check.due(x, "step of one that is stuck", x.step(), -1, Check.NOT_SO);
        Check.no(x, "call of one that is stuck", x.call(200), Check.NOT_SO);
        Check.no(x, "call(0) of one that is stuck", x.call(0), Check.NUMBER);
        // Stuck, and not short, if both.
        x.move(0, 3, 1, 1);
        Check.due(x, "step walked", x.step(), 5, 0);
        x.move(0, 0, 0, 71);
        Check.due(x, "step with 71", x.step(), 1, 0);
        Check.due(x, "step up 4 with 71", x.step(), 5, 0);
        state(x, 5, 1, 77, 20, -2, 0, 0, 0, 71);
        Check.due(x, "step of a short one", x.step(), -1, Check.NOT_SO);
        Check.no(x, "call(0)", x.call(0), Check.NUMBER);
        Check.no(x, "call(201)", x.call(201), Check.NUMBER);
        state(x, 5, 1, 77, 20, -2, 0, 0, 0, 71);
        Check.yes(x, "call(70)", x.call(70));
        state(x, 1, 1, 77, 20, -2, 0, 0, 0, 70);
        Check.due(x, "step with 70", x.step(), 5, 0);
        Check.yes(x, "call(72)", x.call(72));
        Check.due(x, "step with 72", x.step(), 1, 0);
        state(x, 1, 2, 167, 40, -2, 0, 0, 0, 72);
        Check.yes(x, "call(200) of one that goes on", x.call(200));
        Check.due(x, "step with 200", x.step(), 2, 0);
        state(x, 2, 3, 212, 60, -2, 0, 0, 0, 200);
        stuckAheadOfShort();
    }

    private static void stuckAheadOfShort() {
        StoneWalk x = Check.told(Check.WHOLE_ISLAND);
        x.move(1, 0, 0, 1);
        Check.due(x, "step of one that can't, with too few", x.step(), 4, 0);
        Check.due("no draw", x.size(8), 0);
    }

    /** Statue a walked down 1: chance 2, and 6 for its edge. */
    private static void fell() {
        int fallen = 0;
        for (int from = 1700; from < 2000; from++) {
            seed = from;
            boolean falls = draw() % 100 < 8;
            if (!falls && from % 50 != 0) {
                continue;
            }
            int lie = -2;
            if (falls) {
                fallen++;
                int tenth = draw() % 10;
                lie = tenth < 8 ? 0 : tenth < 9 ? 1 : 2;
            }
            StoneWalk x = Check.told(ROADS);
            x.seed(from);
            x.move(0, 3, 2, 20);
            Check.due(x, "step() from seed " + from, x.step(), falls ? 3 : 1, 0);
            state(x, falls ? 3 : 1, falls ? 0 : 1, 40, 0, lie, 0, 3, 2, 20);
            Check.due("size(8) from seed " + from, x.size(8), seed);
        }
        Check.due("some fell", fallen > 5, true);
    }

    /** What a step() from a seed answers, and how the statue lies then, for each kind. */
    private static void oneStep(int way, int road, int chance, int face, int back) {
        int fallen = 0;
        for (int from = 0; from < 4000 && fallen < 25; from++) {
            seed = from;
            if (draw() % 100 >= chance) {
                continue;
            }
            int tenth = draw() % 10;
            fallen++;
            StoneWalk x = Check.told(ROADS);
            x.seed(from);
            x.move(1, way, road, 200);
            Check.due(x, "step from " + from, x.step(), 3, 0);
            Check.due(x, "how it lies from " + from, x.at(4),
                tenth < face ? 0 : tenth < face + back ? 1 : 2, 0);
            Check.due("seed behind " + from, x.size(8), seed);
            Check.due(x, "at(0)", x.at(0), 3, 0);
            Check.due(x, "step of a fallen one", x.step(), -1, Check.NOT_SO);
            Check.no(x, "call of a fallen one", x.call(10), Check.NOT_SO);
        }
        Check.due("fallen ones", fallen, 25);
    }

    private static void fallsEachWay() {
        // Down 1, edge 20.
        oneStep(1, 2, 3, 3, 2);
        oneStep(2, 2, 1, 2, 2);
        oneStep(3, 2, 2, 8, 1);
    }

    /** Wood and minutes come to one that falls, too. */
    private static void falls() {
        StoneWalk x = Check.told(ROADS);
        for (int from = 0; from < 5000; from++) {
            seed = from;
            if (draw() % 100 < 3) {
                x.seed(from);
                x.move(1, 1, 2, 20);
                Check.due(x, "step", x.step(), 3, 0);
                Check.due(x, "minutes of the fallen", x.at(2), 15, 0);
                Check.due(x, "wood of the fallen", x.at(3), 40, 0);
                Check.due(x, "place of the fallen", x.at(1), 0, 0);
                return;
            }
        }
        Check.due("a seed that makes it fall", 0, 1);
    }

    private static void noDraw() {
        StoneWalk x = Check.told(ROADS);
        x.seed(9);
        // Walked, edge 20, on the level: no chance, no draw; up 4: a draw.
        x.move(1, 3, 0, 100);
        x.step();
        Check.due("seed behind the level", x.size(8), 9);
        x.step();
        Check.due("seed behind up 4", x.size(8), 75 * 9 + 74);
        // 65,536 times 75 and 74 goes beyond 65,537.
        x.seed(65536);
        x.move(1, 3, 2, 100);
        x.step();
        Check.due("seed behind 65536", x.size(8), 65536);
        x.seed(65535);
        x.move(1, 3, 2, 100);
        x.step();
        Check.due("seed behind 65535", x.size(8), 65461);
    }

    private static void at() {
        StoneWalk x = Check.told(ROADS);
        Check.due(x, "at(0) without a move", x.at(0), -1, Check.NOTHING);
        Check.due(x, "at(9) without a move", x.at(9), -1, Check.NO_SUCH);
        x.move(1, 2, 1, 7);
        state(x, 1, 0, 0, 0, -2, 1, 2, 1, 7);
        Check.due(x, "at(9)", x.at(9), -1, Check.NO_SUCH);
        Check.due(x, "at(-1)", x.at(-1), -1, Check.NO_SUCH);
    }

    private static void tries() {
        StoneWalk x = Check.told(ROADS);
        Check.due(x, "tries(1) without a move", x.tries(1), -1, Check.NOTHING);
        Check.due(x, "tries(0) without a move", x.tries(0), -1, Check.NOTHING);
        x.move(0, 0, 0, 90);
        Check.due(x, "tries(0)", x.tries(0), -1, Check.NUMBER);
        Check.due(x, "tries(101)", x.tries(101), -1, Check.NUMBER);
        Check.due(x, "tries(100) that never fall", x.tries(100), 100, 0);
        x.step();
        x.call(89);
        // As the move would begin: from the first slope, with its people of now.
        Check.due(x, "tries(1) that are short", x.tries(1), 0, 0);
        state(x, 1, 1, 60, 20, -2, 0, 0, 0, 89);
        x.seed(123);
        seed = 123;
        x.move(0, 3, 2, 100);
        int there = 0;
        int[] slopes = {-1, 5, 5, 5, 5, 5};
        for (int i = 0; i < 100; i++) {
            boolean falls = false;
            for (int k = 0; k < slopes.length && !falls; k++) {
                falls = draw() % 100 < 2 * Math.abs(slopes[k]) + 6;
            }
            if (falls) {
                draw();
            } else {
                there++;
            }
        }
        Check.due(x, "tries(100)", x.tries(100), there, 0);
        Check.due("seed goes on", x.size(8), seed);
        state(x, 1, 0, 0, 0, -2, 0, 3, 2, 100);
        // Of one that is over, too.
        x.move(0, 3, 1, 100);
        x.step();
        x.step();
        Check.due(x, "tries(3) that are stuck", x.tries(3), 0, 0);
    }

    private static long image(long seed, long... parts) {
        long[] bases = {6, 7, 541, 4, 10, 4, 3, 201};
        long image = seed;
        for (int i = 0; i < bases.length; i++) {
            image = image * bases[i] + parts[i];
        }
        return image;
    }

    private static void image() {
        StoneWalk x = Check.told(ROADS);
        Check.due(x, "image() without a move", x.image(), -1, Check.NOTHING);
        x.seed(65536);
        x.move(1, 3, 2, 200);
        x.at(9);
        Check.due(x, "image() of a beginning", x.image(), image(65536, 1, 0, 0, 3, 1, 3, 2, 200), 0);
        x.move(0, 0, 0, 90);
        x.step();
        x.step();
        Check.due(x, "image() under way", x.image(), image(65536, 1, 2, 132, 3, 0, 0, 0, 90), 0);
        x.step();
        Check.due(x, "image() there", x.image(), image(65536, 2, 3, 222, 3, 0, 0, 0, 90), 0);
        x.move(0, 0, 1, 60);
        x.step();
        x.step();
        Check.due(x, "image() stuck", x.image(), image(65536, 4, 1, 90, 3, 0, 0, 1, 60), 0);
        x.move(0, 0, 1, 59);
        x.step();
        Check.due(x, "image() short", x.image(), image(65536, 5, 0, 0, 3, 0, 0, 1, 59), 0);
        fallenImage(x);
    }

    private static void fallenImage(StoneWalk x) {
        for (int from = 0; from < 5000; from++) {
            seed = from;
            if (draw() % 100 < 8 && draw() % 10 == 8) {
                x.seed(from);
                x.move(0, 3, 2, 200);
                x.step();
                Check.due(x, "image() fallen", x.image(),
                    image(seed, 3, 0, 20, 1, 0, 3, 2, 200), 0);
                return;
            }
        }
        Check.due("a seed that makes it fall on its back", 0, 1);
    }

    private static void restored(long image, int seedThen, int... due) {
        StoneWalk x = Check.told(ROADS);
        x.move(0, 0, 0, 1);
        x.step();
        Check.yes(x, "restore(" + image + ")", x.restore(image));
        state(x, due);
        Check.due("seed of an image", x.size(8), seedThen);
        Check.due(x, "image() of an image", x.image(), image, 0);
    }

    private static void restore() {
        restored(image(65536, 1, 2, 132, 3, 0, 0, 0, 90), 65536, 1, 2, 132, 40, -2, 0, 0, 0, 90);
        restored(image(0, 2, 3, 540, 3, 0, 1, 0, 1), 0, 2, 3, 540, 240, -2, 0, 1, 0, 1);
        restored(image(7, 3, 0, 0, 0, 1, 1, 2, 200), 7, 3, 0, 0, 40, 0, 1, 1, 2, 200);
        restored(image(7, 3, 5, 9, 2, 1, 2, 2, 200), 7, 3, 5, 9, 120, 2, 1, 2, 2, 200);
        restored(image(7, 4, 1, 9, 3, 1, 3, 1, 2), 7, 4, 1, 9, 0, -2, 1, 3, 1, 2);
        restored(image(7, 5, 1, 9, 3, 1, 0, 1, 2), 7, 5, 1, 9, 10, -2, 1, 0, 1, 2);
        StoneWalk x = Check.told(ROADS);
        // Without a move before, and gone on from.
        Check.yes(x, "restore()", x.restore(image(3, 1, 1, 60, 3, 0, 0, 0, 90)));
        Check.due(x, "step() behind restore()", x.step(), 1, 0);
        state(x, 1, 2, 132, 40, -2, 0, 0, 0, 90);
        Check.yes(x, "restore() of a short one", x.restore(image(3, 5, 1, 60, 3, 0, 0, 0, 9)));
        Check.due(x, "step() of a short one", x.step(), -1, Check.NOT_SO);
        Check.yes(x, "call(72)", x.call(72));
        Check.due(x, "step() behind call()", x.step(), 1, 0);
        Check.due(x, "tries(2) behind restore()", x.tries(2), 0, 0);
        state(x, 1, 2, 150, 40, -2, 0, 0, 0, 72);
        Check.due(x, "step() up 10 with 72", x.step(), 5, 0);
        Check.no(x, "restore(0)", x.restore(0), Check.NUMBER);
        state(x, 5, 2, 150, 40, -2, 0, 0, 0, 72);
    }

    private static void refused(StoneWalk x, long image) {
        Check.no(x, "restore(" + image + ")", x.restore(image), Check.NUMBER);
    }

    private static void restoreRefused() {
        StoneWalk x = Check.told(ROADS);
        refused(x, image(7, 1, 0, 0, 3, 0, 0, 0, 0));
        Check.due(x, "at(0), still no move", x.at(0), -1, Check.NOTHING);
        x.seed(11);
        x.move(0, 1, 2, 33);
        refused(x, -1);
        refused(x, Long.MIN_VALUE);
        refused(x, Long.MAX_VALUE);
        refused(x, 0);
        refused(x, image(65537, 1, 0, 0, 3, 0, 0, 0, 1));
        refused(x, image(7, 0, 0, 0, 3, 0, 0, 0, 1));
        refused(x, image(7, 1, 3, 0, 3, 0, 0, 0, 1));
        refused(x, image(7, 1, 2, 0, 3, 0, 0, 1, 1));
        refused(x, image(7, 4, 6, 0, 3, 0, 0, 2, 1));
        refused(x, image(7, 2, 2, 0, 3, 0, 0, 0, 1));
        refused(x, image(7, 2, 4, 0, 3, 0, 0, 0, 1));
        refused(x, image(7, 3, 3, 0, 0, 0, 0, 0, 1));
        refused(x, image(7, 3, 0, 0, 3, 0, 0, 0, 1));
        refused(x, image(7, 1, 0, 0, 0, 0, 0, 0, 1));
        refused(x, image(7, 2, 3, 0, 2, 0, 0, 0, 1));
        refused(x, image(7, 1, 0, 0, 3, 2, 0, 0, 1));
        refused(x, image(7, 1, 0, 0, 3, 0, 0, 0, 0));
        state(x, 1, 0, 0, 0, -2, 0, 1, 2, 33);
        Check.due("the seed stays", x.size(8), 11);
        StoneWalk y = Check.told("way g dragged weighs 1 pull 10;road r hollow 1 slopes up 0;"
            + "statue a tons 1 lean 1 edge 1 cut");
        refused(y, image(7, 1, 0, 0, 3, 0, 1, 0, 1));
        refused(y, image(7, 1, 0, 0, 3, 0, 0, 1, 1));
        Check.yes(y, "restore()", y.restore(image(7, 1, 0, 0, 3, 0, 0, 0, 1)));
    }

    private static void withoutIsland() {
        StoneWalk x = new StoneWalk();
        Check.no(x, "seed(1)", x.seed(1), Check.NO_SUCH);
        Check.no(x, "seed(-1)", x.seed(-1), Check.NO_SUCH);
        Check.no(x, "move()", x.move(0, 0, 0, 1), Check.NO_SUCH);
        Check.due(x, "step()", x.step(), -1, Check.NOTHING);
        Check.no(x, "call(1)", x.call(1), Check.NOTHING);
        Check.no(x, "call(0)", x.call(0), Check.NOTHING);
        Check.due(x, "at(0)", x.at(0), -1, Check.NOTHING);
        Check.due(x, "tries(1)", x.tries(1), -1, Check.NOTHING);
        Check.due(x, "image()", x.image(), -1, Check.NOTHING);
        Check.no(x, "restore()", x.restore(0), Check.NO_SUCH);
        Check.no(x, "restore(-1)", x.restore(-1), Check.NO_SUCH);
    }
}
