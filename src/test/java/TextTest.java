/** Promises 1 to 5: a new object, the tape, the text of an island and its faults. */
public final class TextTest {
    private static final String LEAST = Text.LEAST;

    public static void main(String[] args) {
        newObject();
        tape();
        islandBegins();
        islandStays();
        faultAndWhere();
        tokens();
        form();
        names();
        lacks();
        leastNumber();
        anyOrder();
        nothingLeft();
        Check.end("TextTest");
    }

    private static void newObject() {
        StoneWalk x = new StoneWalk();
        Check.due("trouble() of a new object", x.trouble(), 0);
        Check.due("fault() of a new object", x.fault(), 0);
        Check.due("where() of a new object", x.where(), -1);
        for (int what = 0; what <= 10; what++) {
            Check.due("size(" + what + ") of a new object", x.size(what), 0);
        }
        Check.due("statue(0, 0) of a new object", x.statue(0, 0), -1);
        Check.due("forget() of a new object", x.forget(), 0);
        Check.due(x, "likeliest()", x.likeliest(), -1, Check.NO_SUCH);
        Check.due(x, "at(0)", x.at(0), -1, Check.NOTHING);
        Check.due("NONE", StoneWalk.NONE, -1);
    }

    private static void tape() {
        StoneWalk x = new StoneWalk();
        for (int i = 1; i <= 45; i++) {
            Check.due("feed " + i, x.feed(0, 0, 0, 0, 0), 20 * i);
        }
        x.island(901);
        Check.due("feed 46", x.feed(0, 0, 0, 0, 0), -1);
        Check.due("trouble() behind a feed without room", x.trouble(), Check.NUMBER);
        Check.due("size(9)", x.size(9), 900);
        // "way wa", the highest byte of each number first.
        StoneWalk y = new StoneWalk();
        y.feed(0x77617920, 0x77616c6b, 0x65642077, 0x616c6b65, 0x64207765);
        y.feed(0x69676873, 0x20312070, 0x756c6c20, 0x31202020, 0x202020FF);
        Check.due(y, "island(40)", y.island(40), -1, Check.FAULT);
        Check.due("fault()", y.fault(), 1);
        Check.due("where()", y.where(), 39);
    }

    private static void islandBegins() {
        StoneWalk x = Check.told(Check.WHOLE_ISLAND);
        Check.due("trouble() behind an island", x.trouble(), 0);
        Check.due("size(9) behind an island", x.size(9), 0);
        x.see(1, 2, 3);
        x.seed(77);
        x.move(0, 0, 0, 100);
        Check.feed(x, LEAST + ";statue b tons 2 lean 2 edge 2 large;try n tons 1 lean 1 edge 1 up 1");
        // A part of the tape is enough, and the rest of it goes too.
        Check.due(x, "island of a part", x.island(LEAST.length()), 1, 0);
        Check.due("size(9)", x.size(9), 0);
        Check.due("size(0)", x.size(0), 1);
        Check.due("size(1)", x.size(1), 1);
        Check.due("size(2)", x.size(2), 1);
        Check.due("size(3)", x.size(3), 0);
        Check.due("size(6)", x.size(6), 0);
        Check.due("size(7), nothing seen", x.size(7), 0);
        Check.due("size(8), seed 0", x.size(8), 0);
        Check.due("size(10), none lies", x.size(10), 0);
        Check.due(x, "step()", x.step(), -1, Check.NOTHING);
        Check.due("fault()", x.fault(), 0);
        Check.due("how it lies", x.statue(0, 4), -2);
    }

    private static void islandStays() {
        StoneWalk x = Check.told(Check.WHOLE_ISLAND);
        x.see(1, 2, 3);
        x.move(0, 0, 0, 100);
        x.seed(77);
        Check.feed(x, LEAST);
        Check.due(x, "island(-1)", x.island(-1), -1, Check.NUMBER);
        Check.due(x, "island(101)", x.island(101), -1, Check.NUMBER);
        Check.due("size(9), the tape stays", x.size(9), 100);
        Check.due("fault() of the island before", x.fault(), 0);
        Check.due(x, "island() of a faulty text", x.island(LEAST.length() - 1), -1, Check.FAULT);
        Check.due("size(9), the tape goes", x.size(9), 0);
        Check.due("size(2), the island stays", x.size(2), 7);
        Check.due("size(7), what was seen stays", x.size(7), 1);
        Check.due("size(8), the seed stays", x.size(8), 77);
        Check.due(x, "at(8), the move stays", x.at(8), 100, 0);
        Check.due("tons of b", x.statue(1, 0), 20);
        Check.due(x, "hollow(0, 0)", x.hollow(0, 0), 8, 0);
    }

    private static void faultAndWhere() {
        StoneWalk x = new StoneWalk();
        Check.due(x, "island(0)", x.island(0), -1, Check.FAULT);
        Check.due("fault()", x.fault(), 1);
        Check.due("where()", x.where(), 0);
        Check.due("where() again", x.where(), 0);
        x.feed(0, 0, 0, 0, 0);
        x.size(0);
        x.forget();
        x.statue(0, 0);
        Check.due("where() behind calls that can't be refused", x.where(), 0);
        x.step();
        Check.due("where() behind another call", x.where(), -1);
        Check.due("fault() behind another call", x.fault(), 1);
        x.island(21);
        Check.due("where() behind island() refused by 2", x.where(), -1);
        Check.due("fault() behind island() refused by 2", x.fault(), 1);
        x.island(20);
        Check.tell(x, LEAST);
        Check.due("fault() of a text without", x.fault(), 0);
        Check.due("where() of a text without", x.where(), -1);
    }

    private static void tokens() {
        Text.sound("  " + LEAST.replace(" ", "   ").replace(",", " , ").replace(";", " ; ") + "  ");
        Text.sound("way w sled weighs1pull1;road r hollow1slopes up1,down2;statue a tons1lean1edge1cut");
        Text.sound(LEAST + ";way abcdefgh walked weighs 001 pull 07");
        Text.fault(1, "way ", "abcdefghi sled");
        Text.fault(1, "way w sled weighs ", "0001 pull 1");
        Text.fault(1, "", "Way w");
        Text.fault(1, "way w", "\u0001");
        Text.fault(1, "way w sled", ".");
        Text.fault(1, "way w sled weighs 1 ", "\n");
        Text.fault(1, "way w sled weighs ", "-1");
        Text.fault(1, "way w sled weighs 1 pull 1 ", "{");
        Text.fault(1, "way w sled weighs 1 pull 1 ", "`");
        Text.fault(1, "way w sled weighs 1 pull 1 ", "/");
        Text.fault(1, "way w sled weighs 1 pull 1 ", ":");
        Text.fault(1, "way w sled weighs 1 pull 1 ", "\u00e9");
    }

    private static void form() {
        Text.fault(1, "", "w sled");
        Text.fault(1, "", ";");
        Text.fault(1, "", "5");
        Text.fault(1, "way ", "5");
        Text.fault(1, "way w ", "w");
        Text.fault(1, "way w sled ", "pull");
        Text.fault(1, "way w sled weighs ", "pull");
        Text.fault(1, "way w sled weighs 1 ", "weighs");
        Text.fault(1, "way w sled weighs 1 pull 1 ", "pull");
        Text.fault(1, "way w sled weighs 1 pull 1 ", ",");
        Text.fault(1, "way w sled weighs 1 pull 1 ", "1");
        Text.fault(1, LEAST + ";", "");
        Text.fault(1, LEAST + ";  ", "");
        Text.fault(1, LEAST + ";", ";" + "way v sled weighs 1 pull 1");
        Text.fault(1, "road r ", "slopes");
        Text.fault(1, "road r hollow 1 ", "up");
        Text.fault(1, "road r hollow 1 slopes ", "level 1");
        Text.fault(1, "road r hollow 1 slopes up 1,", ";");
        Text.fault(1, "road r hollow 1 slopes up 1 ", "up 1");
        Text.fault(1, LEAST + ";statue b tons 1 lean 1 edge 1 ", "fallen");
        Text.fault(1, LEAST + ";statue b tons 1 lean 1 edge 1 lies ", "up");
        Text.fault(1, LEAST + ";statue b tons 1 lean 1 edge 1 lies face ", "at");
        Text.fault(1, LEAST + ";statue b tons 1 lean 1 edge 1 lies face on r ", "on");
        Text.fault(1, LEAST + ";statue b tons 1 lean 1 edge 1 lies face on r at ", "r");
        Text.fault(1, LEAST + ";statue b tons 1 lean 1 ", "tons");
        Text.fault(1, LEAST + ";trial t ", "tons");
        Text.fault(1, LEAST + ";trial t of ", "1");
        Text.fault(1, LEAST + ";trial t of w tons 1 people 1 ", "minutes");
        Text.fault(1, LEAST + ";land ", "1");
        Text.fault(1, LEAST + ";land trees 1 grows 1 ", "feeds");
        Text.fault(1, LEAST + ";fields ", "feeds");
        Text.fault(1, LEAST + ";fields 1 ", "holds");
        Text.fault(1, LEAST + ";houses 1 holds 1 ", "2");
        Text.fault(1, LEAST + ";houses 1 holds 1 to ", "to");
        Text.fault(1, LEAST + ";story s weighs 1 ", "burnt");
        Text.fault(1, LEAST + ";story s weighs 1 rats ", "every");
        Text.fault(1, LEAST + ";story s weighs 1 rats 1 ", "every 1");
        Text.fault(1, LEAST + ";story s weighs 1 fires 1", "");
        Text.fault(1, LEAST + ";teller o year ", "means");
        Text.fault(1, LEAST + ";teller o year 1 means ", "stranger");
        Text.fault(1, LEAST + ";teller o year 1 means w ", "w");
        Text.fault(1, LEAST + ";teller o year 1 means w stranger ", ",w");
        Text.fault(1, LEAST + ";teller o year 1 means w,", "");
        Text.fault(1, LEAST + ";try p tons 1 lean 1 edge 1 ", "cut");
        Text.fault(1, LEAST + ";try p tons 1 lean 1 edge 1 up 1", ",up 1");
        Text.sound(LEAST + ";teller o year 0 means w stranger;teller p year 999 means w");
    }

    private static void names() {
        String[] taken = {"way", "road", "statue", "trial", "land", "fields", "houses", "story",
            "teller", "try", "up", "down", "stranger"};
        for (String word : taken) {
            Text.fault(1, "way ", word + " sled");
            Text.fault(1, LEAST + ";trial t of ", word);
        }
        String[] free = {"walked", "sled", "weighs", "pull", "hollow", "slopes", "tons", "lean",
            "edge", "cut", "lies", "face", "on", "at", "of", "to", "year", "means", "rats"};
        for (String word : free) {
            Text.sound(LEAST + ";way " + word + " walked weighs 1 pull 1;trial t of " + word
                + " tons 1 people 1 yards 1 minutes 1");
        }
        Text.fault(2, LEAST + ";trial t of ", "v tons 1");
        Text.fault(2, LEAST + ";trial t of ", "r tons 1");
        Text.fault(2, LEAST + ";trial t of ", "t tons 1");
        Text.fault(2, LEAST + ";teller o year 1 means ", "a");
        Text.fault(2, LEAST + ";teller o year 1 means w,", "b");
        Text.fault(2, "statue a tons 1 lean 1 edge 1 lies face on ", "r at 0");
        Text.fault(2, LEAST + ";statue b tons 1 lean 1 edge 1 lies face on ", "w at 0");
        // Told ahead of its use, not behind it.
        Text.fault(2, "trial t of ", "w tons 1;way w sled weighs 1 pull 1");
        Text.fault(3, LEAST + ";way ", "w sled");
        Text.fault(3, LEAST + ";road ", "w");
        Text.fault(3, LEAST + ";statue ", "r");
        Text.fault(3, LEAST + ";trial ", "a");
        Text.fault(3, LEAST + ";story ", "w");
        Text.fault(3, LEAST + ";teller ", "w");
        Text.fault(3, LEAST + ";try ", "a");
        Text.fault(3, LEAST + ";teller o year 1 means w,", "w");
        Text.fault(3, LEAST + ";way v sled weighs 1 pull 1;teller o year 1 means v,w,", "v");
        String ways = "way v sled weighs 1 pull 1;way u sled weighs 1 pull 1;"
            + "way x sled weighs 1 pull 1;teller o year 1 means v,w,x,u";
        Text.sound(LEAST + ";" + ways);
        Text.fault(3, LEAST + ";" + ways + ",", "w");
        Text.fault(2, LEAST + ";" + ways + ",", "a");
        Text.fault(3, LEAST + ";land trees 1 grows 1 people 1;", "land");
        Text.fault(3, LEAST + ";fields 1 feeds 1;", "fields");
        Text.fault(3, LEAST + ";houses 1 holds 1 to 1;", "houses");
        Text.sound(LEAST + ";way abcdefg walked weighs 1 pull 1;way abcdefh walked weighs 1 pull 1");
    }

    private static void lacks() {
        String way = "way w sled weighs 1 pull 1";
        String road = "road r hollow 1 slopes up 1";
        String statue = "statue a tons 1 lean 1 edge 1 cut";
        Text.fault(6, road + ";" + statue, "");
        Text.fault(6, way + ";" + statue, "");
        Text.fault(6, way + ";" + road + "   ", "");
        Text.fault(6, "land trees 1 grows 1 people 1", "");
        Text.sound(statue + ";" + road + ";" + way);
    }

    private static void leastNumber() {
        // The first from the left, whatever its number.
        Text.fault(4, "way w sled weighs ", "0 pull 1; !");
        Text.fault(6, "way w sled weighs 1 pull 1", "");
        Text.fault(1, "way w sled weighs 1 pull", "");
        Text.fault(1, "way w sled weighs 1 pull 1;", "");
        Text.fault(3, "way w sled weighs 1 pull 1;way ", "w flown");
    }

    /** LINES in another order than the document's, but for NAMES, told ahead of their use. */
    private static void anyOrder() {
        StoneWalk x = Check.told("houses 3 holds 1 to 2;fields 4 feeds 5;"
            + "land trees 100 grows 4 people 50;try p tons 5 lean 6 edge 7 down 2;"
            + "story s weighs 8 rats 9;road r hollow 1 slopes up 3,up 2;way w sled weighs 4 pull 5;"
            + "teller o year 1 means w;trial t of w tons 9 people 8 yards 7 minutes 6;"
            + "statue a tons 5 lean 4 edge 3 lies back on r at 1;statue b tons 2 lean 1 edge 0 stood");
        for (int what = 0; what <= 6; what++) {
            Check.due("size(" + what + ")", x.size(what), what == 2 ? 2 : 1);
        }
        int[] a = {5, 4, 3, 5, 1, 0, 1};
        for (int what = 0; what < a.length; what++) {
            Check.due("statue(0, " + what + ")", x.statue(0, what), a[what]);
        }
        Check.due(x, "canOn(0, 0, 0)", x.canOn(0, 0, 0), 3, 0);
        Check.due(x, "people(0, 9, true)", x.people(0, 9, true), 8, 0);
        Check.due(x, "takes(0, 7, true)", x.takes(0, 7, true), 6, 0);
        Check.due(x, "told(0, 0)", x.told(0, 0), 6, 0);
        Check.due(x, "weight()", x.weight(), 8, 0);
        Check.due(x, "tryout()", x.tryout(), 0, 0);
        Check.due(x, "lived(true)", x.lived(true), 6, 0);
        Text.sound(LEAST + ";teller o year 1 means w;story s weighs 8 rats 9;houses 3 holds 1 to 2");
        // Only one road, one teller, one way, and so on: what is next isn't there.
        Check.due(x, "canOn(0, 0, 1)", x.canOn(0, 0, 1), -1, Check.NO_SUCH);
        Check.due(x, "easiest(0, 1)", x.easiest(0, 1), -1, Check.NO_SUCH);
        Check.due(x, "can(1, 0, 0)", x.can(1, 0, 0), -1, Check.NO_SUCH);
        Check.due(x, "can(0, 2, 0)", x.can(0, 2, 0), -1, Check.NO_SUCH);
        Check.due(x, "told(0, 1)", x.told(0, 1), -1, Check.NO_SUCH);
        Check.due(x, "trees(1, 0)", x.trees(1, 0), -1, Check.NO_SUCH);
        Check.due(x, "off(1)", x.off(1), -1000, Check.NO_SUCH);
        Check.due(x, "hollow(0, 1)", x.hollow(0, 1), -1, Check.NO_SUCH);
    }

    /** Island behind island: nothing of the ones before is left. */
    private static void nothingLeft() {
        StringBuilder lying = new StringBuilder(LEAST);
        for (char name = 'f'; name < 'n'; name++) {
            lying.append(";statue ").append(name).append(" tons 1 lean 1 edge 1 lies face on r at 0");
        }
        StoneWalk x = new StoneWalk();
        for (int i = 0; i < 4; i++) {
            Check.due(x, "island of nine", Check.tell(x, lying.toString()), 9, 0);
            Check.due("size(10)", x.size(10), 8);
            Check.due(x, "canOn(0, 0, 0)", x.canOn(0, 0, 0), 3, 0);
        }
        String ways = "way w sled weighs 1 pull 1;way v sled weighs 1 pull 2;"
            + "road r hollow 1 slopes up 1;statue a tons 1 lean 1 edge 1 cut;teller o year 1 means ";
        StoneWalk y = new StoneWalk();
        for (int i = 0; i < 4; i++) {
            Check.due(y, "island", Check.tell(y, ways + (i < 2 ? "w" : "v")), 1, 0);
            Check.due(y, "told(0, 0)", y.told(0, 0), i < 2 ? 6 : 4, 0);
            Check.due(y, "told(1, 0)", y.told(1, 0), i < 2 ? 4 : 6, 0);
            Check.due(y, "canOn(0, 0, 0)", y.canOn(0, 0, 0), 1, 0);
            Check.due("size(10)", y.size(10), 0);
        }
    }
}
