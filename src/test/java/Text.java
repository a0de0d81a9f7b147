/** Texts of islands: which are sound, which are faulty and where. */
final class Text {
    static final String LEAST =
        "way w sled weighs 1 pull 1;road r hollow 1 slopes up 1,down 2;statue a tons 1 lean 1 edge 1 cut";

    private Text() {
    }

    /** The fault of a text, and its place: how long what stands in front of it is. */
    static void fault(int number, String front, String rest) {
        String text = front + rest;
        StoneWalk x = new StoneWalk();
        Check.due(x, "island() of " + text, Check.tell(x, text), -1, Check.FAULT);
        Check.due("fault() of " + text, x.fault(), number);
        Check.due("where() of " + text, x.where(), front.length());
        Check.due("size(2) of " + text, x.size(2), 0);
        Check.due("size(9) of " + text, x.size(9), 0);
    }

    static void sound(String text) {
        StoneWalk x = new StoneWalk();
        int statues = Check.tell(x, text);
        Check.due("fault() of " + text, x.fault(), 0);
        Check.due("trouble() of " + text, x.trouble(), 0);
        Check.due("where() of " + text, x.where(), -1);
        Check.due("statues of " + text, x.size(2), statues);
    }

    /** A WHOLE from low to high stands between two parts of a text, behind the least one. */
    static void bounded(String front, int low, int high, String behind) {
        sound(LEAST + ";" + front + low + behind);
        sound(LEAST + ";" + front + high + behind);
        if (low > 0) {
            fault(4, LEAST + ";" + front, low - 1 + behind);
            fault(4, LEAST + ";" + front, "0" + behind);
        }
        if (high < 999) {
            fault(4, LEAST + ";" + front, high + 1 + behind);
            fault(4, LEAST + ";" + front, "999" + behind);
        }
        fault(1, LEAST + ";" + front, "1000" + behind);
        fault(1, LEAST + ";" + front, "w" + behind);
        fault(1, LEAST + ";" + front, "");
    }

    /** So many LINES beside the least text, then one more of them; "#" is a NAME. */
    static void room(int more, String line) {
        StringBuilder text = new StringBuilder(LEAST);
        for (int i = 0; i < more; i++) {
            text.append(';').append(line.replace('#', (char) ('f' + i)));
        }
        sound(text.toString());
        String word = line.substring(0, line.indexOf(' '));
        fault(5, text + ";", line);
        // At its first WORD, whatever stands behind that.
        fault(5, text + ";", word);
        fault(5, text + " ;  ", word + " 7");
    }
}
