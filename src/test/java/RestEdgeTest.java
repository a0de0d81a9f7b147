import java.util.NoSuchElementException;

/** Term IV and promises 45 to 48, and the 512 calls: a test of each bound or edge. */
public final class RestEdgeTest {
    private static final String WAYS =
        "way w walked weighs 1 pull 1;way l sled weighs 1 pull 1;way k rolled weighs 1 pull 1;"
        + "way g dragged weighs 1 pull 1;road r hollow 1 slopes down 1,up 0,up 1";
    private static final int NO_SUCH_ELEMENT = -3;

    public static void main(String[] args) {
        ledByFiveTenths();
        ledOfNone();
        ledByNumbers();
        ledBehindTurn();
        sizeOfEach();
        sizeOfOthers();
        statueOfEach();
        statueOfNone();
        troubleOfTheLatest();
        askingChangesNothing();
        troubleOfEachNumber();
        allOfTheCalls();
        Check.end("RestEdgeTest");
    }

    private static int led(StoneWalk x, int way, int i) {
        try {
            return x.led(way, i);
        } catch (NoSuchElementException e) {
            return NO_SUCH_ELEMENT;
        }
    }

    private static String lay(char name, String lie, int place) {
        return ";statue " + name + " tons 1 lean 1 edge 1 lies " + lie + " on r at " + place;
    }

    /** Promise 45: "by 5 tenths or more": 5 are enough, 4 aren't. */
    private static void ledByFiveTenths() {
        int[][][] tenths = {
            {{8, 1, 1}, {4, 4, 2}, {2, 7, 1}}, {{2, 2, 6}, {2, 2, 6}, {2, 2, 6}},
            {{3, 2, 5}, {2, 3, 5}, {2, 3, 5}}, {{6, 3, 1}, {5, 4, 1}, {5, 4, 1}},
        };
        String[] lies = {"face", "back", "side"};
        for (int place = 0; place < 3; place++) {
            for (int lie = 0; lie < 3; lie++) {
                StoneWalk x = Check.told(WAYS + lay('a', lies[lie], place));
                for (int way = 0; way < 4; way++) {
                    boolean clear = tenths[way][place][lie] >= 5;
                    String call = "led(" + way + ", 0) " + lies[lie] + " at " + place;
                    Check.due(call, led(x, way, 0), clear ? 0 : NO_SUCH_ELEMENT);
                    Check.due(call + ", a second", led(x, way, 1), NO_SUCH_ELEMENT);
                }
            }
        }
    }

    /** Promise 45: "NoSuchElementException if there is none such". */
    private static void ledOfNone() {
        StoneWalk none = new StoneWalk();
        for (int i : new int[] {-1, 0, 1, Integer.MIN_VALUE, Integer.MAX_VALUE}) {
            Check.due("led(0, " + i + ") of a new object", led(none, 0, i), NO_SUCH_ELEMENT);
            Check.due("led(" + i + ", 0) of a new object", led(none, i, 0), NO_SUCH_ELEMENT);
        }
        StoneWalk x = Check.told(WAYS + lay('a', "face", 0));
        for (int i : new int[] {-1, 1, 2, Integer.MIN_VALUE, Integer.MAX_VALUE}) {
            Check.due("led(0, " + i + ")", led(x, 0, i), NO_SUCH_ELEMENT);
        }
        for (int way : new int[] {-1, 4, Integer.MIN_VALUE, Integer.MAX_VALUE}) {
            Check.due("led(" + way + ", 0)", led(x, way, 0), NO_SUCH_ELEMENT);
        }
        Check.due("led(0, 0)", led(x, 0, 0), 0);
        String[] sorts = {"cut", "large", "buried", "stood", "tried"};
        for (String sort : sorts) {
            StoneWalk y = Check.told(WAYS + ";statue a tons 1 lean 1 edge 1 " + sort);
            for (int way = 0; way < 4; way++) {
                Check.due("led(" + way + ", 0) of one " + sort, led(y, way, 0), NO_SUCH_ELEMENT);
            }
        }
    }

    /** Promise 45: "(0: the first, by numbers)", of eight that lie among ten. */
    private static void ledByNumbers() {
        StringBuilder text = new StringBuilder(WAYS + ";statue y tons 1 lean 1 edge 1 stood");
        for (char name = 'a'; name < 'e'; name++) {
            text.append(lay(name, "face", 0));
        }
        text.append(";statue z tons 1 lean 1 edge 1 cut");
        for (char name = 'm'; name < 'q'; name++) {
            text.append(lay(name, name == 'n' ? "side" : "face", 0));
        }
        StoneWalk x = Check.told(text.toString());
        int[] due = {1, 2, 3, 4, 6, 8, 9, NO_SUCH_ELEMENT, NO_SUCH_ELEMENT};
        for (int i = 0; i < due.length; i++) {
            Check.due("led(0, " + i + ")", led(x, 0, i), due[i]);
            Check.due("led(3, " + i + ")", led(x, 3, i), due[i]);
        }
        Check.due("led(1, 0)", led(x, 1, 0), 7);
        Check.due("led(1, 1)", led(x, 1, 1), NO_SUCH_ELEMENT);
        Check.due("led(2, 0)", led(x, 2, 0), 7);
    }

    /** A statue that was turned is led as it lies now; trouble() is left as it was. */
    private static void ledBehindTurn() {
        StoneWalk x = Check.told(WAYS + lay('a', "face", 0));
        x.turn(0, 2);
        Check.due("led(0, 0) of one turned", led(x, 0, 0), NO_SUCH_ELEMENT);
        Check.due("led(1, 0) of one turned", led(x, 1, 0), 0);
        Check.due("trouble() behind led()", x.trouble(), 0);
        x.turn(0, 3);
        Check.due("led(1, 0) once more", led(x, 1, 0), 0);
        Check.due("led(0, 0) once more", led(x, 0, 0), NO_SUCH_ELEMENT);
        Check.due("trouble() behind both", x.trouble(), Check.NO_SUCH);
    }

    /** Promise 46: each of 0 .. 10, with as many as there can be. */
    private static void sizeOfEach() {
        StringBuilder text = new StringBuilder(WAYS);
        text.append(";road q hollow 1 slopes up 1;road p hollow 1 slopes up 1");
        for (char name = 'a'; name < 'f'; name++) {
            text.append(lay(name, "face", 0));
        }
        text.append(";statue x tons 1 lean 1 edge 1 cut;statue y tons 1 lean 1 edge 1 cut");
        text.append(";statue z tons 1 lean 1 edge 1 cut");
        text.append(";story aa weighs 1 rats 1;story ab weighs 1 rats 1;story ac weighs 1 rats 1");
        text.append(";teller ba year 1 means w;teller bb year 1 means w");
        StoneWalk x = Check.told(text.toString());
        x.see(1, 1, 1);
        x.see(1, 1, 1);
        x.seed(65536);
        x.feed(0, 0, 0, 0, 0);
        int[] due = {4, 3, 8, 0, 3, 2, 0, 2, 65536, 20, 5};
        for (int what = 0; what < due.length; what++) {
            Check.due("size(" + what + ")", x.size(what), due[what]);
        }
        StoneWalk y = Check.told(Text.LEAST + ";trial t of w tons 1 people 1 yards 1 minutes 1"
            + ";trial u of w tons 1 people 1 yards 1 minutes 1;try c tons 1 lean 1 edge 1 up 1"
            + ";try d tons 1 lean 1 edge 1 up 1;try e tons 1 lean 1 edge 1 up 1");
        int[] more = {1, 1, 1, 2, 0, 0, 3, 0, 0, 0, 0};
        for (int what = 0; what < more.length; what++) {
            Check.due("size(" + what + ") of the other", y.size(what), more[what]);
        }
    }

    /** Promise 46: "NONE for others; 0 for what there isn't". */
    private static void sizeOfOthers() {
        for (State s : State.values()) {
            StoneWalk x = s.make();
            int trouble = x.trouble();
            for (int what : new int[] {-1, 11, 12, Integer.MIN_VALUE, Integer.MAX_VALUE}) {
                Check.due("size(" + what + ") in state " + s, x.size(what), -1);
            }
            for (int what = 0; what <= 6; what++) {
                Check.due("size(" + what + ") in state " + s, x.size(what), s.many(what));
            }
            Check.due("size(7) in state " + s, x.size(7), s.seen());
            Check.due("size(9) in state " + s, x.size(9), s.held());
            Check.due("size(10) in state " + s, x.size(10), s.firstLies() ? 1 : 0);
            Check.due("trouble() in state " + s, x.trouble(), trouble);
        }
    }

    /** Promise 47: what 0 .. 6; "4 how it lies (-2), 5 its ROAD (-2), 6 where (-2)". */
    private static void statueOfEach() {
        String[] sorts = {"cut", "large", "buried", "stood", "tried", "lies face on q at 0",
            "lies back on r at 2", "lies side on r at 0"};
        StringBuilder text = new StringBuilder(WAYS + ";road q hollow 1 slopes up 1");
        for (int i = 0; i < sorts.length; i++) {
            text.append(";statue ").append((char) ('a' + i)).append(" tons ").append(99 - i);
            text.append(" lean ").append(30 - i).append(" edge ").append(20 - i).append(' ');
            text.append(sorts[i]);
        }
        StoneWalk x = Check.told(text.toString().replace("statue g", "statue gg"));
        int[][] lying = {{0, 1, 0}, {1, 0, 2}, {2, 0, 0}};
        for (int i = 0; i < sorts.length; i++) {
            int[] due = {99 - i, 30 - i, 20 - i, Math.min(i, 5), -2, -2, -2};
            for (int what = 0; what < due.length; what++) {
                int answer = i >= 5 && what >= 4 ? lying[i - 5][what - 4] : due[what];
                Check.due("statue(" + i + ", " + what + ")", x.statue(i, what), answer);
            }
            Check.due("statue(" + i + ", 7)", x.statue(i, 7), -1);
            Check.due("statue(" + i + ", -1)", x.statue(i, -1), -1);
        }
        Check.due("statue(8, 0)", x.statue(8, 0), -1);
    }

    /** Promise 47: "NONE for none such", of a statue or of what. */
    private static void statueOfNone() {
        for (State s : State.values()) {
            StoneWalk x = s.make();
            int trouble = x.trouble();
            for (int t : new int[] {-1, s.many(2), 10, Integer.MIN_VALUE, Integer.MAX_VALUE}) {
                for (int what = -1; what <= 7; what++) {
                    Check.due("statue(" + t + ", " + what + ") in state " + s, x.statue(t, what), -1);
                }
            }
            for (int what : new int[] {-1, 7, Integer.MIN_VALUE, Integer.MAX_VALUE}) {
                Check.due("statue(0, " + what + ") in state " + s, x.statue(0, what), -1);
            }
            if (s.hasIsland()) {
                Check.due("statue(0, 0) in state " + s, x.statue(0, 0), s.isWhole() ? 10 : 1);
            }
            Check.due("trouble() in state " + s, x.trouble(), trouble);
        }
    }

    /** TROUBLE "of the latest call that may be refused": 0 behind one that wasn't. */
    private static void troubleOfTheLatest() {
        for (int which = 0; which < 36; which++) {
            StoneWalk x = State.UNDER_WAY.make();
            x.island(-1);
            Check.due("trouble() ahead of call " + which, x.trouble(), Check.NUMBER);
            grantedCall(x, which);
            Check.due("trouble() behind call " + which + " that is granted", x.trouble(), 0);
            Check.due("where() behind it", x.where(), -1);
        }
        StoneWalk y = new StoneWalk();
        Check.feed(y, Text.LEAST);
        y.island(-1);
        Check.due(y, "an island behind 2", y.island(Text.LEAST.length()), 1, 0);
    }

    private static void grantedCall(StoneWalk x, int which) {
        switch (which) {
            case 0 -> x.can(0, 0, 0);
            case 1 -> x.canOn(0, 0, 0);
            case 2 -> x.steepest(0, 2, false);
            case 3 -> x.need(0, 0, 0);
            case 4 -> x.minutes(0, 0, 0, 1);
            case 5 -> x.chance(0, 0, 0);
            case 6 -> x.lying(0, 0, 0);
            case 7 -> x.easiest(2, 1);
            case 8 -> x.seed(1);
            case 9 -> x.move(0, 0, 0, 1);
            case 10 -> x.step();
            case 11 -> x.call(1);
            case 12 -> x.at(4);
            case 13 -> x.tries(1);
            case 14 -> x.image();
            case 15 -> x.restore(RefusalTest.image(1, 1, 0, 0, 3, 0, 0, 0, 1));
            case 16 -> x.odds(0);
            case 17 -> x.odds(-1);
            case 18 -> x.likeliest();
            default -> grantedCallToo(x, which);
        }
    }

    private static void grantedCallToo(StoneWalk x, int which) {
        switch (which) {
            case 19 -> x.lies(0, 0);
            case 20 -> x.hollow(0, 0);
            case 21 -> x.shape(0);
            case 22 -> x.changed();
            case 23 -> x.told(0, 0);
            case 24 -> x.turn(0, 0);
            case 25 -> x.hangs();
            case 26 -> x.tryout();
            case 27 -> x.people(0, 1, true);
            case 28 -> x.takes(0, 1, true);
            case 29 -> x.off(0);
            case 30 -> x.wood(0);
            case 31 -> x.enough(0);
            case 32 -> x.trees(0, 0);
            case 33 -> x.see(0, 0, 0);
            case 34 -> x.dig();
            default -> {
                x.fits();
                Check.due("trouble() behind fits()", x.trouble(), 0);
                x.island(-1);
                x.weight();
                Check.due("trouble() behind weight()", x.trouble(), 0);
                x.island(-1);
                x.gone(1);
                Check.due("trouble() behind gone()", x.trouble(), 0);
                x.island(-1);
                x.lived(true);
            }
        }
    }

    /** A call that only tells changes nothing, in whatever state. */
    private static void askingChangesNothing() {
        for (State s : State.values()) {
            for (int which = 0; which < 36; which++) {
                boolean changes = which >= 8 && which <= 11 || which == 13 || which == 15 || which == 33;
                if (changes || which == 24) {
                    continue;
                }
                StoneWalk x = s.make();
                StoneWalk twin = s.make();
                ask(x, which);
                ask(x, which);
                String what = "call " + which + " in state " + s;
                Check.due("fault() behind " + what, x.fault(), twin.fault());
                Check.same("all behind " + what, State.show(x), State.show(twin));
                Check.same("the tape behind " + what, State.showTape(x), State.showTape(twin));
            }
        }
    }

    private static void ask(StoneWalk x, int which) {
        if (which == 35) {
            x.fits();
            x.weight();
            x.gone(0);
            x.lived(true);
            x.lived(false);
            led(x, 0, 0);
            x.size(0);
            x.statue(0, 0);
            x.trouble();
            x.where();
            x.fault();
        } else {
            grantedCall(x, which);
        }
    }

    /** Each of 1 .. 6, one behind the other, and 0 behind each. */
    private static void troubleOfEachNumber() {
        StoneWalk x = State.SEEN.make();
        for (int round = 0; round < 3; round++) {
            Check.due(x, "1, none such", x.can(3, 0, 0), -1, Check.NO_SUCH);
            granted(x);
            Check.due(x, "2, a number", x.can(0, 0, 21), -1, Check.NUMBER);
            granted(x);
            Check.due(x, "3, no room", x.see(0, 0, 0), -1, Check.NO_ROOM);
            granted(x);
            Check.due(x, "4, a fault", x.island(0), -1, Check.FAULT);
            granted(x);
            Check.no(x, "5, not so", x.turn(1, 0), Check.NOT_SO);
            granted(x);
            Check.due(x, "6, there is none", x.step(), -1, Check.NOTHING);
            granted(x);
        }
    }

    private static void granted(StoneWalk x) {
        Check.due(x, "likeliest()", x.likeliest(), 0, 0);
        Check.due("trouble() again", x.trouble(), 0);
    }

    /** "An object is used for at most 512 calls": the last of them is answered as the first. */
    private static void allOfTheCalls() {
        StoneWalk x = Check.told(Text.LEAST);
        int made = (Text.LEAST.length() + 19) / 20 + 1;
        x.move(0, 0, 0, 21);
        made++;
        long there = 0;
        while (made < 510) {
            there += x.tries(100);
            made++;
        }
        Check.due("the 511th call", x.size(2), 1);
        Check.due("the 512th call", x.likeliest(), 0);
        Check.due("some came there", there > 0, true);
    }
}
