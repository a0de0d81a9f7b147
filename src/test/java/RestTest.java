import java.util.NoSuchElementException;

/** Promises 45 to 48: led, size, statue, trouble. */
public final class RestTest {
    public static void main(String[] args) {
        led();
        size();
        statue();
        trouble();
        Check.end("RestTest");
    }

    private static void led(StoneWalk x, int way, int... due) {
        for (int i = -1; i <= due.length; i++) {
            int got = -1;
            boolean thrown = false;
            try {
                got = x.led(way, i);
            } catch (NoSuchElementException e) {
                thrown = true;
            }
            String call = "led(" + way + ", " + i + ")";
            Check.due(call + " throws", thrown, i < 0 || i == due.length);
            Check.due(call, got, i < 0 || i == due.length ? -1 : due[i]);
        }
    }

    private static void led() {
        StoneWalk x = Check.told(Check.WHOLE_ISLAND
            + ";statue i tons 1 lean 1 edge 1 lies side on r at 2"
            + ";statue j tons 1 lean 1 edge 1 lies face on r at 2"
            + ";statue m tons 1 lean 1 edge 1 lies face on z at 0");
        led(x, 0, 0, 3, 9);
        led(x, 1, 7);
        // Five tenths are enough, four aren't.
        led(x, 2, 7);
        led(x, 3, 0, 8, 9);
        led(x, 4);
        led(x, -1);
        x.turn(3, 0);
        led(x, 0, 0, 9);
        led(x, 3, 0, 3, 8, 9);
        led(new StoneWalk(), 0);
        x.island(-1);
        led(x, 4);
        Check.due("trouble() behind led()", x.trouble(), Check.NUMBER);
    }

    private static void size() {
        StoneWalk x = Check.told(Check.WHOLE_ISLAND + ";story s weighs 1 rats 1"
            + ";story n weighs 1 rats 1;teller o year 1 means w;try p tons 1 lean 1 edge 1 up 1");
        x.feed(0, 0, 0, 0, 0);
        x.seed(99);
        x.see(1, 1, 1);
        int[] due = {4, 3, 7, 3, 2, 1, 1, 1, 99, 20, 2};
        for (int what = 0; what < due.length; what++) {
            Check.due("size(" + what + ")", x.size(what), due[what]);
        }
        Check.due("size(11)", x.size(11), -1);
        Check.due("size(-1)", x.size(-1), -1);
        Check.due("size(MIN)", x.size(Integer.MIN_VALUE), -1);
        StoneWalk none = new StoneWalk();
        Check.due("size(11) of a new object", none.size(11), -1);
    }

    private static void told(StoneWalk x, int t, int... due) {
        for (int what = 0; what < due.length; what++) {
            Check.due("statue(" + t + ", " + what + ")", x.statue(t, what), due[what]);
        }
    }

    private static void statue() {
        StoneWalk x = Check.told(Check.WHOLE_ISLAND
            + ";statue i tons 99 lean 30 edge 0 lies side on q at 0");
        told(x, 0, 10, 12, 6, 5, 0, 0, 1);
        told(x, 1, 20, 4, 8, 3, -2, -2, -2);
        told(x, 2, 40, 0, 0, 0, -2, -2, -2);
        told(x, 3, 30, 25, 3, 5, 1, 2, 1);
        told(x, 4, 21, 26, 20, 1, -2, -2, -2);
        told(x, 5, 20, 5, 2, 2, -2, -2, -2);
        told(x, 6, 1, 11, 12, 4, -2, -2, -2);
        told(x, 7, 99, 30, 0, 5, 2, 1, 0);
        x.island(-1);
        Check.due("statue(8, 0)", x.statue(8, 0), -1);
        Check.due("statue(-1, 0)", x.statue(-1, 0), -1);
        Check.due("statue(0, 7)", x.statue(0, 7), -1);
        Check.due("statue(0, -1)", x.statue(0, -1), -1);
        Check.due("trouble() behind statue()", x.trouble(), Check.NUMBER);
        // What lay in one island doesn't in the next.
        String next = "way w sled weighs 1 pull 1;road r hollow 1 slopes up 1;"
            + "statue a tons 1 lean 1 edge 1 stood";
        Check.tell(x, next);
        Check.tell(x, next);
        told(x, 0, 1, 1, 1, 3, -2, -2, -2);
        Check.due("statue(1, 0)", x.statue(1, 0), -1);
    }

    private static void trouble() {
        StoneWalk x = Check.told(Check.WHOLE_ISLAND);
        x.can(9, 9, 9);
        Check.due("trouble()", x.trouble(), Check.NO_SUCH);
        Check.due("trouble() again", x.trouble(), Check.NO_SUCH);
        x.feed(0, 0, 0, 0, 0);
        x.fault();
        x.where();
        x.forget();
        x.size(2);
        x.size(11);
        x.statue(0, 0);
        x.statue(9, 9);
        Check.due("trouble() behind calls without a number", x.trouble(), Check.NO_SUCH);
        x.can(0, 0, 0);
        Check.due("trouble() behind one that isn't refused", x.trouble(), 0);
        x.statue(9, 9);
        for (int i = 0; i < 46; i++) {
            x.feed(0, 0, 0, 0, 0);
        }
        Check.due("trouble() behind a feed without room", x.trouble(), 0);
        x.island(20);
        Check.due("trouble() of a fault", x.trouble(), Check.FAULT);
        x.lived(true);
        Check.due("trouble() of what there isn't", x.trouble(), Check.NOTHING);
        x.lying(0, 0, 0);
        Check.due("trouble() of an answer", x.trouble(), 0);
    }
}
