/** Compares answers with those that are due, and feeds texts to an object. */
final class Check {
    static final int NO_SUCH = 1;
    static final int NUMBER = 2;
    static final int NO_ROOM = 3;
    static final int FAULT = 4;
    static final int NOT_SO = 5;
    static final int NOTHING = 6;

    /** Ways of each kind, roads deep and shallow, statues of each sort, and all else. */
    static final String WHOLE_ISLAND =
        "way w walked weighs 50 pull 10;way l sled weighs 30 pull 5;"
        + "way k rolled weighs 20 pull 7;way g dragged weighs 10 pull 3;"
        + "road r hollow 4 slopes up 2,down 3,up 0;road q hollow 2 slopes up 12;"
        + "road z hollow 3 slopes down 6,up 8;"
        + "statue a tons 10 lean 12 edge 6 lies face on r at 1;"
        + "statue b tons 20 lean 4 edge 8 stood;"
        + "statue c tons 40 lean 0 edge 0 cut;"
        + "statue d tons 30 lean 25 edge 3 lies back on z at 1;"
        + "statue e tons 21 lean 26 edge 20 large;"
        + "statue f tons 20 lean 5 edge 2 buried;"
        + "statue h tons 1 lean 11 edge 12 tried;"
        + "trial t of w tons 5 people 18 yards 100 minutes 40;"
        + "trial v of w tons 8 people 20 yards 300 minutes 50;"
        + "trial x of l tons 10 people 25 yards 999 minutes 1";

    private static int calls = 0;
    private static int wrong = 0;

    private Check() {
    }

    static void due(String what, long got, long want) {
        calls++;
        if (got != want) {
            wrong++;
            System.out.println(what + " answered " + got + ", due is " + want);
        }
    }

    static void due(String what, boolean got, boolean want) {
        due(what, got ? 1 : 0, want ? 1 : 0);
    }

    /** Lines that are due; only the first that differs is printed. */
    static void same(String what, String got, String want) {
        calls++;
        if (got.equals(want)) {
            return;
        }
        wrong++;
        String[] lines = got.split("\n");
        String[] dueLines = want.split("\n");
        int i = 0;
        while (i < lines.length && i < dueLines.length && lines[i].equals(dueLines[i])) {
            i++;
        }
        System.out.println(what + ": " + (i < lines.length ? lines[i] : "nothing more") + ", due is "
            + (i < dueLines.length ? dueLines[i] : "nothing more"));
    }

    /** A call that may be refused: its answer, and what trouble() tells of it. */
    static void due(StoneWalk x, String what, long got, long want, int trouble) {
        due(what, got, want);
        due("trouble() behind " + what, x.trouble(), trouble);
    }

    static void yes(StoneWalk x, String what, boolean got) {
        due(x, what, got ? 1 : 0, 1, 0);
    }

    static void no(StoneWalk x, String what, boolean got, int trouble) {
        due(x, what, got ? 1 : 0, 0, trouble);
    }

    /** Feeds a text, blanks behind it; how many bytes the tape has then. */
    static int feed(StoneWalk x, String text) {
        int held = StoneWalk.NONE;
        for (int i = 0; i < text.length(); i += 20) {
            held = x.feed(four(text, i), four(text, i + 4), four(text, i + 8),
                four(text, i + 12), four(text, i + 16));
        }
        return held;
    }

    private static int four(String text, int from) {
        int number = 0;
        for (int i = from; i < from + 4; i++) {
            number = number << 8 | (i < text.length() ? text.charAt(i) & 255 : ' ');
        }
        return number;
    }

    static int tell(StoneWalk x, String text) {
        feed(x, text);
        return x.island(text.length());
    }

    /** A new object that has the island of a text. */
    static StoneWalk told(String text) {
        StoneWalk x = new StoneWalk();
        if (tell(x, text) == StoneWalk.NONE) {
            due("fault " + x.fault() + " at " + x.where() + " of a text without fault", 1, 0);
        }
        return x;
    }

    static void end(String name) {
        System.out.println(name + ": " + calls + " answers, " + wrong + " not as due");
        if (wrong != 0) {
            System.exit(1);
        }
    }
}
