import java.util.NoSuchElementException;

/**
 * Each number of refusal that a promise tells, in each state in which it is due: the answer,
 * trouble(), fault() and where() behind it, and that all else is as it was. A promise's numbers
 * are looked at in the order in which it tells them.
 */
public final class RefusalTest {
    private static final int MIN = Integer.MIN_VALUE;
    private static final int MAX = Integer.MAX_VALUE;
    private static final int WAYS = 0;
    private static final int ROADS = 1;
    private static final int STATUES = 2;
    private static final int TRIALS = 3;
    private static final int STORIES = 4;
    private static final int TELLERS = 5;

    private static int refusals;

    private interface Call {
        long answer(StoneWalk x);
    }

    private interface At {
        long answer(StoneWalk x, int i);
    }

    /** The number of the refusal in a state; 0 if it isn't refused there. */
    private interface Due {
        int number(State s);
    }

    public static void main(String[] args) {
        states();
        islandByTwo();
        islandByFour();
        ways();
        roadsAndStatues();
        others();
        slopes();
        moves();
        movesWithout();
        images();
        whichWay();
        turns();
        trials();
        trees();
        seen();
        withoutNumber();
        Check.end("RefusalTest");
    }

    private static int bit(boolean answer) {
        return answer ? 1 : 0;
    }

    /** One call in each state in which it is refused; at least one is. */
    private static void each(String call, long answer, Due due, Call asked) {
        int before = refusals;
        for (State s : State.values()) {
            int number = due.number(s);
            if (number != 0) {
                refused(s, call, answer, number, asked);
            }
        }
        Check.due(call + " is refused in some state", refusals > before, true);
    }

    private static void refused(State s, String call, long answer, int number, Call asked) {
        refusals++;
        String what = call + " in state " + s;
        StoneWalk x = s.make();
        StoneWalk twin = s.make();
        Check.due(what, asked.answer(x), answer);
        Check.due("trouble() behind " + what, x.trouble(), number);
        Check.due("where() behind " + what, x.where(), -1);
        Check.due("fault() behind " + what, x.fault(), twin.fault());
        Check.due("trouble() once more behind " + what, x.trouble(), number);
        Check.due("bytes of the tape behind " + what, x.size(9), s.held());
        Check.same("all else behind " + what, State.show(x), State.show(twin));
        Check.same("the tape behind " + what, State.showTape(x), State.showTape(twin));
    }

    /** By 1 for each number that is none of what there is, in each state. */
    private static void absent(String call, int what, long answer, At asked) {
        for (int i : new int[] {-1, MIN, MAX}) {
            each(call + " of " + i, answer, s -> Check.NO_SUCH, x -> asked.answer(x, i));
        }
        for (State s : State.values()) {
            int behind = s.many(what);
            refused(s, call + " of " + behind, answer, Check.NO_SUCH, x -> asked.answer(x, behind));
        }
    }

    /** By 2, but by 1 where there is no ISLAND. */
    private static int byTwo(State s) {
        return s.hasIsland() ? Check.NUMBER : Check.NO_SUCH;
    }

    /** By 1 where there is no ISLAND, and nowhere else. */
    private static int bare(State s) {
        return s.hasIsland() ? 0 : Check.NO_SUCH;
    }

    private static void states() {
        int[] told = {-1, -1, -1, -1, -1, -1, -1, -1, -1, -1, -1, 1, 1, 2, 3, 4, 5, 1, 1, 1, -1};
        for (State s : State.values()) {
            StoneWalk x = s.make();
            Check.due("at(0) in state " + s, x.at(0), told[s.ordinal()]);
            Check.due("a move in state " + s, x.trouble(), s.hasMove() ? 0 : Check.NOTHING);
            for (int what = 0; what <= 6; what++) {
                Check.due("size(" + what + ") in state " + s, x.size(what), s.many(what));
            }
            Check.due("size(9) in state " + s, x.size(9), s.held());
            Check.due("seen in state " + s, x.size(7), s.seen());
            boolean faulty = s == State.FAULTY || s == State.KEPT;
            Check.due("fault() in state " + s, x.fault(), faulty ? 4 : 0);
        }
    }

    /** Promise 3: NONE: 2 (THE TAPE stays). */
    private static void islandByTwo() {
        for (int n : new int[] {-1, MIN, 901, MAX}) {
            each("island(" + n + ")", -1, s -> Check.NUMBER, x -> x.island(n));
        }
        for (State s : State.values()) {
            int more = s.held() + 1;
            refused(s, "island(" + more + ")", -1, Check.NUMBER, x -> x.island(more));
        }
    }

    /** Promise 3: NONE: 4 (the ISLAND stays), and THE TAPE is empty then. */
    private static void islandByFour() {
        for (State s : State.values()) {
            for (int n = 0; n <= s.held(); n += 20) {
                StoneWalk x = s.make();
                StoneWalk twin = s.make();
                String what = "island(" + n + ") in state " + s;
                Check.due(what, x.island(n), -1);
                fault(x, what, 1, n == 0 ? 0 : 19);
                Check.due("size(9) behind " + what, x.size(9), 0);
                Check.same("all else behind " + what, State.show(x), State.show(twin));
            }
            faulty(s, State.FAULTY_TEXT, 4, 20);
            faulty(s, State.WHOLE_TEXT + ";", 1, State.WHOLE_TEXT.length() + 1);
            faulty(s, State.WHOLE_TEXT + ";trial x of v", 2, State.WHOLE_TEXT.length() + 12);
            faulty(s, State.WHOLE_TEXT + ";way w", 3, State.WHOLE_TEXT.length() + 5);
            faulty(s, State.WHOLE_TEXT + ";land", 3, State.WHOLE_TEXT.length() + 1);
            faulty(s, "road r hollow 1 slopes up 1", 6, 27);
            faulty(s, "road r hollow 1 slopes up 1,up 1,up 1,up 1,up 1,up 1,up 1", 5, 53);
        }
    }

    private static void faulty(State s, String text, int number, int place) {
        if (s.held() > 0) {
            return;
        }
        StoneWalk x = s.make();
        String what = "island() of " + text + " in state " + s;
        Check.due(what, Check.tell(x, text), -1);
        fault(x, what, number, place);
        Check.due("size(9) behind " + what, x.size(9), 0);
        Check.same("all else behind " + what, State.show(x), State.show(s.make()));
        Check.due("fault() behind other calls, of " + what, x.fault(), number);
    }

    private static void fault(StoneWalk x, String what, int number, int place) {
        Check.due("trouble() behind " + what, x.trouble(), Check.FAULT);
        Check.due("fault() behind " + what, x.fault(), number);
        Check.due("where() behind " + what, x.where(), place);
        Check.due("where() once more behind " + what, x.where(), place);
    }

    /** 1: none such, of a WAY. */
    private static void ways() {
        absent("can() by a way", WAYS, -1, (x, i) -> x.can(i, 0, 0));
        absent("canOn() by a way", WAYS, -1, (x, i) -> x.canOn(i, 0, 0));
        absent("steepest() by a way", WAYS, -1000, (x, i) -> x.steepest(i, 0, false));
        absent("steepest() down by a way", WAYS, -1000, (x, i) -> x.steepest(i, 0, true));
        absent("need() by a way", WAYS, -1, (x, i) -> x.need(i, 0, 0));
        absent("minutes() by a way", WAYS, -1, (x, i) -> x.minutes(i, 0, 0, 1));
        absent("chance() by a way", WAYS, -1, (x, i) -> x.chance(i, 0, 0));
        absent("lying() by a way", WAYS, -1, (x, i) -> x.lying(i, 0, 0));
        absent("move() by a way", WAYS, 0, (x, i) -> bit(x.move(0, i, 0, 1)));
        absent("lies() by a way", WAYS, -1, (x, i) -> x.lies(i, 0));
        absent("hollow() by a way", WAYS, -1, (x, i) -> x.hollow(i, 0));
        absent("shape() by a way", WAYS, -1, (x, i) -> x.shape(i));
        absent("told() by a way", WAYS, -1, (x, i) -> x.told(i, 0));
        absent("people() by a way", WAYS, -1, (x, i) -> x.people(i, 1, false));
        absent("takes() by a way", WAYS, -1, (x, i) -> x.takes(i, 1, false));
        absent("wood() by a way", WAYS, -1, (x, i) -> x.wood(i));
        absent("enough() by a way", WAYS, -1, (x, i) -> x.enough(i));
    }

    /** 1: none such, of a ROAD or a statue. */
    private static void roadsAndStatues() {
        absent("canOn() along a road", ROADS, -1, (x, i) -> x.canOn(0, 0, i));
        absent("easiest() along a road", ROADS, -1, (x, i) -> x.easiest(0, i));
        absent("move() along a road", ROADS, 0, (x, i) -> bit(x.move(0, 0, i, 1)));
        absent("hollow() of a road", ROADS, -1, (x, i) -> x.hollow(0, i));
        absent("can() of a statue", STATUES, -1, (x, i) -> x.can(0, i, 0));
        absent("canOn() of a statue", STATUES, -1, (x, i) -> x.canOn(0, i, 0));
        absent("steepest() of a statue", STATUES, -1000, (x, i) -> x.steepest(0, i, false));
        absent("need() of a statue", STATUES, -1, (x, i) -> x.need(0, i, 0));
        absent("minutes() of a statue", STATUES, -1, (x, i) -> x.minutes(0, i, 0, 1));
        absent("chance() of a statue", STATUES, -1, (x, i) -> x.chance(0, i, 0));
        absent("easiest() of a statue", STATUES, -1, (x, i) -> x.easiest(i, 0));
        absent("move() of a statue", STATUES, 0, (x, i) -> bit(x.move(i, 0, 0, 1)));
        absent("lies() of a statue", STATUES, -1, (x, i) -> x.lies(0, i));
        absent("turn() of a statue", STATUES, 0, (x, i) -> bit(x.turn(i, 0)));
    }

    /** 1: none such, of a trial, a STORY, a teller. */
    private static void others() {
        absent("off() of a trial", TRIALS, -1000, (x, i) -> x.off(i));
        absent("trees() of a story", STORIES, -1, (x, i) -> x.trees(i, 0));
        absent("gone() of a story", STORIES, -1, (x, i) -> x.gone(i));
        absent("told() of a teller", TELLERS, -1, (x, i) -> x.told(0, i));
        for (int way : new int[] {-2, MIN, MAX, 3}) {
            each("odds(" + way + ")", -1, s -> Check.NO_SUCH, x -> x.odds(way));
        }
        for (State s : State.values()) {
            int behind = s.many(WAYS);
            refused(s, "odds(" + behind + ")", -1, Check.NO_SUCH, x -> x.odds(behind));
        }
    }

    /** 2: s -20 .. 20, and people 1 .. 200; 1 ahead of that. */
    private static void slopes() {
        for (int s : new int[] {-21, 21, MIN, MAX}) {
            each("can() on " + s, -1, RefusalTest::byTwo, x -> x.can(0, 0, s));
            each("need() on " + s, -1, RefusalTest::byTwo, x -> x.need(0, 0, s));
            each("minutes() on " + s, -1, RefusalTest::byTwo, x -> x.minutes(0, 0, s, 1));
            each("chance() on " + s, -1, RefusalTest::byTwo, x -> x.chance(0, 0, s));
            each("lying() on " + s, -1, RefusalTest::byTwo, x -> x.lying(0, s, 0));
            each("can() of none on " + s, -1, q -> Check.NO_SUCH, x -> x.can(9, 0, s));
            each("need() of none on " + s, -1, q -> Check.NO_SUCH, x -> x.need(0, 9, s));
            each("minutes() of none on " + s, -1, q -> Check.NO_SUCH, x -> x.minutes(9, 9, s, 0));
            each("chance() of none on " + s, -1, q -> Check.NO_SUCH, x -> x.chance(0, -1, s));
            each("lying() of none on " + s, -1, q -> Check.NO_SUCH, x -> x.lying(9, s, 0));
            each("lying() of no lie on " + s, -1, q -> Check.NO_SUCH, x -> x.lying(0, s, 3));
        }
        for (int people : new int[] {0, -1, 201, MIN, MAX}) {
            each("minutes() with " + people, -1, RefusalTest::byTwo, x -> x.minutes(0, 0, 0, people));
        }
        for (int lie : new int[] {-1, 3, MIN, MAX}) {
            each("lying() of lie " + lie, -1, s -> Check.NO_SUCH, x -> x.lying(0, 0, lie));
        }
    }

    /** Promises 14, 15, 17, 18, 19: their numbers, in their order. */
    private static void moves() {
        for (int v : new int[] {-1, 65537, MIN, MAX}) {
            each("seed(" + v + ")", 0, RefusalTest::byTwo, x -> bit(x.seed(v)));
        }
        for (int v : new int[] {0, 65536}) {
            each("seed(" + v + ")", 0, RefusalTest::bare, x -> bit(x.seed(v)));
        }
        for (int people : new int[] {0, -1, 201, MIN, MAX}) {
            each("move() with " + people, 0, RefusalTest::byTwo, x -> bit(x.move(0, 0, 0, people)));
            each("move() of none with " + people, 0, s -> Check.NO_SUCH,
                x -> bit(x.move(9, 0, 0, people)));
            each("call(" + people + ")", 0, s -> s.hasMove() ? Check.NUMBER : Check.NOTHING,
                x -> bit(x.call(people)));
        }
        for (int people : new int[] {1, 200}) {
            each("call(" + people + ")", 0,
                s -> s.isOver() ? Check.NOT_SO : s.hasMove() ? 0 : Check.NOTHING,
                x -> bit(x.call(people)));
        }
        for (int what : new int[] {-1, 9, MIN, MAX}) {
            each("at(" + what + ")", -1, s -> Check.NO_SUCH, x -> x.at(what));
        }
        for (int n : new int[] {0, -1, 101, MIN, MAX}) {
            each("tries(" + n + ")", -1, s -> s.hasMove() ? Check.NUMBER : Check.NOTHING,
                x -> x.tries(n));
        }
        each("step()", -1,
            s -> s.isOver() || s == State.SHORT ? Check.NOT_SO : s.hasMove() ? 0 : Check.NOTHING,
            x -> x.step());
    }

    /** 6: there is no MOVE. */
    private static void movesWithout() {
        for (int what = 0; what <= 8; what++) {
            int i = what;
            each("at(" + i + ")", -1, s -> s.hasMove() ? 0 : Check.NOTHING, x -> x.at(i));
        }
        for (int n : new int[] {1, 100}) {
            each("tries(" + n + ")", -1, s -> s.hasMove() ? 0 : Check.NOTHING, x -> x.tries(n));
        }
        each("image()", -1, s -> s.hasMove() ? 0 : Check.NOTHING, StoneWalk::image);
    }

    /** Promise 21: 1 (no ISLAND); 2 (none of this ISLAND). */
    private static void images() {
        long sound = image(7, 1, 0, 0, 3, 0, 0, 0, 1);
        each("restore() of an image", 0, RefusalTest::bare, x -> bit(x.restore(sound)));
        long[] wrong = {
            0, -1, Long.MIN_VALUE, Long.MAX_VALUE, -sound, image(65537, 1, 0, 0, 3, 0, 0, 0, 1),
            image(7, 0, 0, 0, 3, 0, 0, 0, 1), image(7, 1, 6, 0, 3, 0, 0, 0, 1),
            image(7, 2, 0, 0, 3, 0, 0, 0, 1), image(7, 3, 0, 0, 3, 0, 0, 0, 1),
            image(7, 1, 0, 0, 2, 0, 0, 0, 1), image(7, 1, 0, 0, 3, 3, 0, 0, 1),
            image(7, 1, 0, 0, 3, 0, 3, 0, 1), image(7, 1, 0, 0, 3, 0, 0, 2, 1),
            image(7, 1, 0, 0, 3, 0, 0, 0, 0),
        };
        for (long image : wrong) {
            each("restore(" + image + ")", 0, RefusalTest::byTwo, x -> bit(x.restore(image)));
        }
    }

    static long image(long seed, long... parts) {
        long[] bases = {6, 7, 541, 4, 10, 4, 3, 201};
        long image = seed;
        for (int i = 0; i < bases.length; i++) {
            image = image * bases[i] + parts[i];
        }
        return image;
    }

    /** Promises 22 to 31. */
    private static void whichWay() {
        each("odds(NONE)", -1, RefusalTest::bare, x -> x.odds(-1));
        each("likeliest()", -1, RefusalTest::bare, StoneWalk::likeliest);
        each("hangs()", -1, RefusalTest::bare, StoneWalk::hangs);
        for (int statue = 1; statue <= 2; statue++) {
            int t = statue;
            each("lies() of one that doesn't", -1, s -> Check.NO_SUCH, x -> x.lies(0, t));
        }
        each("lies() of the first that doesn't", -1, s -> s.firstLies() ? 0 : Check.NO_SUCH,
            x -> x.lies(0, 0));
        each("changed()", -1000,
            s -> !s.hasIsland() ? Check.NO_SUCH : s.isWhole() ? 0 : Check.NOTHING,
            StoneWalk::changed);
        each("tryout()", -1,
            s -> !s.hasIsland() ? Check.NO_SUCH : s.isWhole() ? 0 : Check.NOTHING,
            StoneWalk::tryout);
    }

    /** Promise 29: 1 (statue, LIE 0 .. 2); 5 (it doesn't lie). */
    private static void turns() {
        for (int lie : new int[] {-1, 3, MIN, MAX}) {
            each("turn(0, " + lie + ")", 0, s -> Check.NO_SUCH, x -> bit(x.turn(0, lie)));
            each("turn(1, " + lie + ")", 0, s -> Check.NO_SUCH, x -> bit(x.turn(1, lie)));
        }
        for (int lie = 0; lie <= 2; lie++) {
            int way = lie;
            each("turn(1, " + lie + ")", 0, s -> s.isWhole() ? Check.NOT_SO : Check.NO_SUCH,
                x -> bit(x.turn(1, way)));
            each("turn(0, " + lie + ")", 0,
                s -> !s.hasIsland() ? Check.NO_SUCH : s.firstLies() ? 0 : Check.NOT_SO,
                x -> bit(x.turn(0, way)));
        }
    }

    /** Promises 32, 33 and 36: 1, 2, 6 in this order. */
    private static void trials() {
        for (boolean most : new boolean[] {false, true}) {
            for (int tons : new int[] {0, -1, 401, MIN, MAX}) {
                each("people(0, " + tons + ")", -1, RefusalTest::byTwo, x -> x.people(0, tons, most));
                each("people(9, " + tons + ")", -1, s -> Check.NO_SUCH, x -> x.people(9, tons, most));
            }
            for (int yards : new int[] {0, -1, 10000, MIN, MAX}) {
                each("takes(0, " + yards + ")", -1, RefusalTest::byTwo, x -> x.takes(0, yards, most));
                each("takes(9, " + yards + ")", -1, s -> Check.NO_SUCH, x -> x.takes(9, yards, most));
            }
            each("people() without a trial", -1, RefusalTest::withoutTrial, x -> x.people(0, 1, most));
            each("people() of more than 4 times", -1,
                s -> s.hasIsland() ? Check.NOTHING : Check.NO_SUCH, x -> x.people(0, 21, most));
            each("takes() without a trial", -1, RefusalTest::withoutTrial, x -> x.takes(0, 1, most));
            each("people() by a way without one", -1,
                s -> s.isWhole() ? Check.NOTHING : Check.NO_SUCH, x -> x.people(1, 1, most));
            each("takes() by a way without one", -1,
                s -> s.isWhole() ? Check.NOTHING : Check.NO_SUCH, x -> x.takes(2, 1, most));
        }
        each("enough() without land", -1, RefusalTest::withoutLand, x -> x.enough(0));
        each("enough() of none", -1, s -> Check.NO_SUCH, x -> x.enough(9));
    }

    /** 6 on an ISLAND without what may be left out, 1 without one. */
    private static int withoutTrial(State s) {
        return !s.hasIsland() ? Check.NO_SUCH : s.isWhole() ? 0 : Check.NOTHING;
    }

    private static int withoutLand(State s) {
        return !s.hasIsland() ? Check.NO_SUCH : s.hasLand() ? 0 : Check.NOTHING;
    }

    /** Of the story 0: 1 if there is none, 6 if there is no land. */
    private static int withoutStory(State s) {
        return !s.hasStory() ? Check.NO_SUCH : s.hasLand() ? 0 : Check.NOTHING;
    }

    /** Promises 37, 40 to 44. */
    private static void trees() {
        for (int year : new int[] {-1, 100, MIN, MAX}) {
            each("trees(0, " + year + ")", -1, s -> s.hasStory() ? Check.NUMBER : Check.NO_SUCH,
                x -> x.trees(0, year));
            each("trees(9, " + year + ")", -1, s -> Check.NO_SUCH, x -> x.trees(9, year));
        }
        each("trees(0, 0) without land", -1, RefusalTest::withoutStory, x -> x.trees(0, 0));
        each("trees(0, 99) without land", -1, RefusalTest::withoutStory, x -> x.trees(0, 99));
        each("gone(0) without land", -1, RefusalTest::withoutStory, x -> x.gone(0));
        each("fits() without land", -1, RefusalTest::withoutLand, StoneWalk::fits);
        each("weight() without land", -1, RefusalTest::withoutLand, StoneWalk::weight);
        each("dig() without land or fits", -1,
            s -> withoutLand(s) != 0 ? withoutLand(s)
                : s == State.STOOD || s == State.NO_FITS ? Check.NOTHING : 0, StoneWalk::dig);
        each("lived(false) without fields", -1, RefusalTest::withoutTrial, x -> x.lived(false));
        each("lived(true) without fields", -1, RefusalTest::withoutTrial, x -> x.lived(true));
    }

    /** Promise 38: 1 (no ISLAND); 2; 3, in this order. */
    private static void seen() {
        int[][] wrong = {
            {-1, 0, 0}, {100, 0, 0}, {MIN, 0, 0}, {MAX, 0, 0}, {0, -1, 0}, {0, 10000, 0},
            {0, MIN, 0}, {0, MAX, 0}, {0, 0, -1}, {0, 0, 1000}, {0, 0, MIN}, {0, 0, MAX},
        };
        for (int[] w : wrong) {
            each("see(" + w[0] + ", " + w[1] + ", " + w[2] + ")", -1, RefusalTest::byTwo,
                x -> x.see(w[0], w[1], w[2]));
        }
        int[][] right = {{0, 0, 0}, {99, 9999, 999}};
        for (int[] r : right) {
            each("see(" + r[0] + ", " + r[1] + ", " + r[2] + ")", -1,
                s -> !s.hasIsland() ? Check.NO_SUCH : s == State.SEEN ? Check.NO_ROOM : 0,
                x -> x.see(r[0], r[1], r[2]));
        }
    }

    /** Calls of which no number is told leave trouble() as it was, in each state. */
    private static void withoutNumber() {
        for (State s : State.values()) {
            for (int number : new int[] {0, Check.NO_SUCH, Check.NUMBER, Check.FAULT}) {
                StoneWalk x = s.make();
                bring(x, s, number);
                String what = "trouble " + number + " in state " + s;
                int fault = x.fault();
                int where = x.where();
                Check.due(what, x.trouble(), number);
                boolean room = x.size(9) < 900;
                Check.due("feed() with " + what, x.feed(1, 2, 3, 4, 5), room ? x.size(9) : -1);
                x.size(-1);
                x.statue(-1, 0);
                x.statue(0, 7);
                led(x);
                x.forget();
                Check.due(what + ", behind calls that tell no number", x.trouble(), number);
                Check.due("fault() with " + what, x.fault(), fault);
                Check.due("where() with " + what, x.where(), where);
                Check.due("a place with " + what, where != -1, number == Check.FAULT);
            }
        }
    }

    private static void bring(StoneWalk x, State s, int number) {
        if (number == Check.NO_SUCH) {
            x.can(-1, 0, 0);
        } else if (number == Check.NUMBER) {
            x.island(-1);
        } else if (number == Check.FAULT) {
            x.island(0);
        } else if (s.hasIsland()) {
            x.likeliest();
        } else {
            // Without an ISLAND nothing that may be refused is granted; a new object has 0.
            Check.tell(x, "");
            Check.feed(x, State.LEAST_TEXT);
            x.island(State.LEAST_TEXT.length());
        }
    }

    private static void led(StoneWalk x) {
        boolean thrown = false;
        try {
            x.led(-1, 0);
        } catch (NoSuchElementException e) {
            thrown = true;
        }
        Check.due("led(-1, 0) throws", thrown, true);
    }
}
