import java.util.NoSuchElementException;

/**
 * Any call with any arguments in any state ends, throws nothing but what the document names, and
 * answers the same each time. The calls come of a fixed row of numbers.
 */
public final class AnyCallTest {
    private static final String FULL = Check.WHOLE_ISLAND
        + ";land trees 100 grows 4 people 50;fields 10 feeds 6;houses 5 holds 4 to 10"
        + ";story s weighs 3 felled 10;story u weighs 5 rats 50;teller o year 722 means w"
        + ";try p tons 5 lean 10 edge 5 up 4";
    private static final String BYTES = "way w sled;roadup,down stue 0123lies face on r at 1 \u0000\u00ff{";
    private static final int[] ODD = {
        Integer.MIN_VALUE, Integer.MIN_VALUE + 1, -65537, -1000, -21, -3, -2, -1, 13, 21, 100, 101,
        201, 401, 901, 65536, 65537, 1 << 30, Integer.MAX_VALUE - 1, Integer.MAX_VALUE,
    };

    private static long state;

    public static void main(String[] args) {
        for (int run = 0; run < 400; run++) {
            long first = answers(run);
            Check.due("run " + run + " again", answers(run), first);
        }
        texts();
        images();
        Check.end("AnyCallTest");
    }

    private static int next(int bound) {
        state = state * 6364136223846793005L + 1442695040888963407L;
        return (int) ((state >>> 33) % bound);
    }

    private static int any() {
        return next(4) == 0 ? ODD[next(ODD.length)] : next(12);
    }

    /** All answers of a run of calls, as one number. */
    private static long answers(int run) {
        state = run;
        StoneWalk x = run % 4 == 0 ? new StoneWalk() : Check.told(FULL);
        long sum = 0;
        for (int i = 0; i < 400; i++) {
            int which = next(47);
            try {
                sum = sum * 31 + answer(x, which);
            } catch (NoSuchElementException e) {
                Check.due("call " + which + " may throw", which, 43);
                sum++;
            } catch (RuntimeException e) {
                Check.due("call " + which + " of run " + run + " threw " + e, 1, 0);
            }
        }
        return sum;
    }

    private static long answer(StoneWalk x, int which) {
        switch (which) {
            case 0: return x.feed(any(), any(), any(), any(), any());
            case 1: return x.island(any());
            case 2: return x.fault();
            case 3: return x.where();
            case 4: return x.can(any(), any(), any());
            case 5: return x.canOn(any(), any(), any());
            case 6: return x.steepest(any(), any(), next(2) == 0);
            case 7: return x.need(any(), any(), any());
            case 8: return x.minutes(any(), any(), any(), any());
            case 9: return x.chance(any(), any(), any());
            case 10: return x.lying(any(), any(), any());
            case 11: return x.easiest(any(), any());
            case 12: return x.seed(any()) ? 1 : 0;
            case 13: return x.move(next(8), next(5), next(4), 200 - next(202)) ? 1 : 0;
            case 14: return x.step();
            case 15: return x.call(any()) ? 1 : 0;
            case 16: return x.at(any());
            case 17: return x.tries(any());
            case 18: return x.image();
            case 19: return x.restore((long) any() * any()) ? 1 : 0;
            case 20: return x.odds(any());
            case 21: return x.likeliest();
            case 22: return x.lies(any(), any());
            case 23: return x.hollow(any(), any());
            default: return answerMore(x, which);
        }
    }

    private static long answerMore(StoneWalk x, int which) {
        switch (which) {
            case 24: return x.shape(any());
            case 25: return x.changed();
            case 26: return x.told(any(), any());
            case 27: return x.turn(any(), any()) ? 1 : 0;
            case 28: return x.hangs();
            case 29: return x.tryout();
            case 30: return x.people(any(), any(), next(2) == 0);
            case 31: return x.takes(any(), any(), next(2) == 0);
            case 32: return x.off(any());
            case 33: return x.wood(any());
            case 34: return x.enough(any());
            case 35: return x.trees(any(), any());
            case 36: return x.see(any(), any(), any());
            case 37: return x.forget();
            case 38: return x.fits();
            case 39: return x.weight();
            case 40: return x.gone(any());
            case 41: return x.dig();
            case 42: return x.lived(next(2) == 0);
            case 43: return x.led(any(), any());
            case 44: return x.size(any());
            case 45: return x.statue(any(), any());
            default: return x.trouble();
        }
    }

    /** Texts with some bytes changed: the place of a fault lies in the text, or at its end. */
    private static void texts() {
        state = 77;
        for (int run = 0; run < 3000; run++) {
            char[] text = FULL.toCharArray();
            for (int i = next(3); i >= 0; i--) {
                text[next(text.length)] = BYTES.charAt(next(BYTES.length()));
            }
            StoneWalk x = new StoneWalk();
            int n = Check.tell(x, new String(text));
            boolean sound = n > 0 && x.fault() == 0 && x.where() == -1 && x.trouble() == 0;
            boolean faulty = n == -1 && x.fault() >= 1 && x.fault() <= 6 && x.where() >= 0
                && x.where() <= text.length && x.trouble() == Check.FAULT && x.size(2) == 0;
            Check.due("text " + run + " is sound or faulty", sound != faulty, true);
        }
        for (int n = 0; n < FULL.length(); n++) {
            StoneWalk x = new StoneWalk();
            Check.feed(x, FULL);
            boolean whole = x.island(n) > 0;
            Check.due("the first " + n + " bytes", whole, x.fault() == 0);
        }
    }

    /** A move goes on from its image, in another object, as it would have itself. */
    private static void images() {
        state = 5;
        for (int run = 0; run < 300; run++) {
            StoneWalk x = Check.told(FULL);
            x.seed(next(65537));
            x.move(next(7), next(4), next(3), 1 + next(200));
            for (int i = next(4); i > 0; i--) {
                x.step();
                if (x.at(0) == 5) {
                    x.call(200);
                }
            }
            StoneWalk y = Check.told(FULL);
            Check.yes(y, "restore()", y.restore(x.image()));
            for (int i = 0; i < 4; i++) {
                for (int what = 0; what <= 8; what++) {
                    Check.due("at(" + what + ")", y.at(what), x.at(what));
                }
                Check.due("size(8)", y.size(8), x.size(8));
                Check.due("image()", y.image(), x.image());
                Check.due("step()", y.step(), x.step());
                Check.due("trouble()", y.trouble(), x.trouble());
            }
            Check.due("tries()", y.tries(20), x.tries(20));
        }
    }
}
