/** Promises 37 to 44: trees by stories, what was seen of them, how many lived. */
public final class TreeTest {
    private static final String LEAST =
        "way w sled weighs 1 pull 1;road r hollow 1 slopes up 1;statue a tons 1 lean 1 edge 1 cut";
    private static final String STORIES =
        ";story s weighs 3 felled 10;story u weighs 5 rats 50;story f weighs 7 fires 50 every 10";

    public static void main(String[] args) {
        trees();
        treesOf();
        see();
        fits();
        gone();
        dig();
        lived();
        withoutLand();
        withoutIsland();
        Check.end("TreeTest");
    }

    private static StoneWalk land(String rest) {
        return Check.told(LEAST + ";land " + rest);
    }

    private static void years(StoneWalk x, int story, int... due) {
        for (int year = 0; year < due.length; year++) {
            Check.due(x, "trees(" + story + ", " + year + ")", x.trees(story, year), due[year], 0);
        }
    }

    private static void trees() {
        StoneWalk x = land("trees 100 grows 4 people 50" + STORIES);
        years(x, 0, 100, 97, 94, 91, 88, 85, 82, 79);
        years(x, 1, 100, 100, 100);
        years(x, 2, 100, 102, 104, 106, 108, 110, 112, 114, 116, 118, 61, 62);
        Check.due(x, "trees(1, 99)", x.trees(1, 99), 100, 0);
        Check.due(x, "trees(0, 100)", x.trees(0, 100), -1, Check.NUMBER);
        Check.due(x, "trees(0, -1)", x.trees(0, -1), -1, Check.NUMBER);
        Check.due(x, "trees(3, 0)", x.trees(3, 0), -1, Check.NO_SUCH);
        Check.due(x, "trees(-1, 0)", x.trees(-1, 0), -1, Check.NO_SUCH);
        Check.due(x, "trees(3, 100)", x.trees(3, 100), -1, Check.NO_SUCH);
    }

    private static void treesOf() {
        // 499 grow, 19 go, 989 are felled; never fewer than 0.
        StoneWalk x = land("trees 999 grows 50 people 999;story s weighs 1 felled 99"
            + ";story u weighs 1 rats 0;story n weighs 1 felled 0;story v weighs 1 rats 100");
        years(x, 0, 999, 490, 0, 0, 0);
        years(x, 1, 999, 1479, 2189);
        years(x, 2, 999, 1479, 2189);
        years(x, 3, 999, 980, 961);
        Check.due(x, "trees at most", x.trees(1, 99), 9999, 0);
        // Rats: 10 of 10.5 that grow, 6 of 6.7 of these.
        StoneWalk y = land("trees 150 grows 7 people 50;story u weighs 1 rats 33"
            + ";story s weighs 1 felled 3;story f weighs 1 fires 33 every 2"
            + ";story e weighs 1 fires 100 every 1;story h weighs 1 fires 100 every 50");
        years(y, 0, 150, 153, 156);
        // Felled: 1 of 1.5.
        years(y, 1, 150, 156, 162);
        // Fires: 51 of 51.81 in the second year.
        years(y, 2, 150, 157, 113);
        years(y, 3, 150, 7, 0, 0);
        Check.yes(y, "trees the year ahead of a fire", y.trees(4, 49) > 99);
        int before = y.trees(4, 49);
        int due = before * 7 / 100 - before * 2 / 100;
        Check.due(y, "trees in the year of a fire", y.trees(4, 50), due, 0);
    }

    private static void see() {
        StoneWalk x = land("trees 100 grows 4 people 50" + STORIES);
        Check.due(x, "see(-1, 0, 0)", x.see(-1, 0, 0), -1, Check.NUMBER);
        Check.due(x, "see(100, 0, 0)", x.see(100, 0, 0), -1, Check.NUMBER);
        Check.due(x, "see(0, -1, 0)", x.see(0, -1, 0), -1, Check.NUMBER);
        Check.due(x, "see(0, 10000, 0)", x.see(0, 10000, 0), -1, Check.NUMBER);
        Check.due(x, "see(0, 0, -1)", x.see(0, 0, -1), -1, Check.NUMBER);
        Check.due(x, "see(0, 0, 1000)", x.see(0, 0, 1000), -1, Check.NUMBER);
        Check.due(x, "see(0, 0, 0)", x.see(0, 0, 0), 1, 0);
        Check.due(x, "see(99, 9999, 999)", x.see(99, 9999, 999), 2, 0);
        for (int i = 3; i <= 12; i++) {
            Check.due(x, "see() " + i, x.see(1, 97, 5), i, 0);
        }
        Check.due("size(7)", x.size(7), 12);
        Check.due(x, "see() 13", x.see(1, 97, 5), -1, Check.NO_ROOM);
        Check.due(x, "see() 13 of a bad number", x.see(100, 97, 5), -1, Check.NUMBER);
        Check.due("forget()", x.forget(), 12);
        Check.due("trouble() behind forget()", x.trouble(), Check.NUMBER);
        Check.due("size(7)", x.size(7), 0);
        Check.due("forget() of nothing", x.forget(), 0);
        Check.due(x, "see() again", x.see(1, 97, 5), 1, 0);
    }

    private static void agree(StoneWalk x, int fits, int weight) {
        Check.due(x, "fits()", x.fits(), fits, 0);
        Check.due(x, "weight()", x.weight(), weight, 0);
    }

    private static void fits() {
        StoneWalk x = land("trees 100 grows 4 people 50" + STORIES);
        agree(x, 7, 15);
        // 97, 100, 102.
        x.see(1, 102, 5);
        agree(x, 7, 15);
        x.see(1, 102, 4);
        agree(x, 6, 12);
        x.see(1, 100, 1);
        agree(x, 2, 5);
        x.see(99, 99, 0);
        agree(x, 0, 0);
        x.forget();
        x.see(1, 92, 5);
        agree(x, 1, 3);
        x.forget();
        x.see(10, 61, 0);
        agree(x, 4, 7);
        x.forget();
        agree(x, 7, 15);
        StoneWalk none = land("trees 1 grows 1 people 1");
        agree(none, 0, 0);
    }

    private static void gone() {
        StoneWalk x = land("trees 100 grows 4 people 50" + STORIES);
        int year = 0;
        while (x.trees(0, year) >= 10) {
            year++;
        }
        Check.due(x, "gone(0)", x.gone(0), year, 0);
        Check.due("the year", year, 25);
        Check.due(x, "gone(1)", x.gone(1), -2, 0);
        Check.due(x, "gone(3)", x.gone(3), -1, Check.NO_SUCH);
        Check.due(x, "gone(-1)", x.gone(-1), -1, Check.NO_SUCH);
        StoneWalk y = land("trees 9 grows 50 people 0;story s weighs 1 felled 0");
        Check.due(y, "gone from the first year", y.gone(0), 0, 0);
        StoneWalk z = land("trees 10 grows 0 people 0;story s weighs 1 felled 0");
        Check.due(z, "ten trees aren't gone", z.gone(0), -2, 0);
        StoneWalk u = land("trees 11 grows 0 people 100;story s weighs 1 felled 1;"
            + "story h weighs 1 fires 10 every 50;story i weighs 1 fires 100 every 33");
        Check.due(u, "gone(0)", u.gone(0), 2, 0);
        Check.due(u, "gone(1)", u.gone(1), -2, 0);
        Check.due(u, "gone(2)", u.gone(2), 33, 0);
    }

    private static void dig() {
        StoneWalk x = land("trees 100 grows 4 people 50" + STORIES);
        int widest = 0;
        int due = 0;
        for (int year = 0; year < 100; year++) {
            int a = x.trees(0, year);
            int b = x.trees(1, year);
            int c = x.trees(2, year);
            int spread = Math.max(a, Math.max(b, c)) - Math.min(a, Math.min(b, c));
            if (spread > widest) {
                widest = spread;
                due = year;
            }
        }
        Check.due(x, "dig()", x.dig(), due, 0);
        // Only those that fit: 100 against 102, 104, .. and then less.
        x.see(1, 101, 1);
        agree(x, 6, 12);
        Check.yes(x, "dig() of two", x.dig() > 9);
        x.see(1, 100, 0);
        Check.due(x, "dig() of one", x.dig(), 0, 0);
        x.see(1, 99, 0);
        Check.due(x, "dig() of none", x.dig(), -1, Check.NOTHING);
        // They part in the year of the fire, and by as much ever after: the first such.
        StoneWalk y = land("trees 49 grows 0 people 0;story s weighs 1 felled 0;"
            + "story h weighs 1 fires 50 every 50");
        Check.due(y, "dig() of alike years", y.dig(), 50, 0);
        StoneWalk z = land("trees 50 grows 0 people 0;story s weighs 1 felled 0;"
            + "story h weighs 1 fires 3 every 50");
        Check.due(z, "dig() of one tree's difference", z.dig(), 50, 0);
        StoneWalk none = land("trees 1 grows 1 people 1");
        Check.due(none, "dig() without stories", none.dig(), -1, Check.NOTHING);
    }

    private static void lived(String text, int least, int most) {
        StoneWalk x = Check.told(LEAST + text);
        Check.due(x, "lived(false) of" + text, x.lived(false), least, 0);
        Check.due(x, "lived(true) of" + text, x.lived(true), most, 0);
    }

    private static void lived() {
        lived(";fields 10 feeds 6;houses 5 holds 4 to 10", 20, 50);
        lived(";fields 5 feeds 6;houses 5 holds 4 to 10", 20, 30);
        lived(";houses 5 holds 4 to 10;fields 2 feeds 5", 10, 10);
        lived(";fields 999 feeds 99;houses 999 holds 20 to 40", 19980, 39960);
        lived(";fields 0 feeds 99;houses 9 holds 0 to 0", 0, 0);
        StoneWalk x = Check.told(LEAST + ";fields 1 feeds 1");
        Check.due(x, "lived(true) without houses", x.lived(true), -1, Check.NOTHING);
        StoneWalk y = Check.told(LEAST + ";houses 1 holds 1 to 2");
        Check.due(y, "lived(false) without fields", y.lived(false), -1, Check.NOTHING);
        // An island without them, behind one with them.
        StoneWalk z = Check.told(LEAST + ";fields 1 feeds 1;houses 1 holds 1 to 2");
        Check.tell(z, LEAST);
        Check.tell(z, LEAST);
        Check.due(z, "lived(true) of another island", z.lived(true), -1, Check.NOTHING);
    }

    private static void withoutLand() {
        StoneWalk x = Check.told(LEAST + STORIES);
        Check.due(x, "trees(0, 0)", x.trees(0, 0), -1, Check.NOTHING);
        Check.due(x, "trees(0, 100)", x.trees(0, 100), -1, Check.NUMBER);
        Check.due(x, "fits()", x.fits(), -1, Check.NOTHING);
        Check.due(x, "weight()", x.weight(), -1, Check.NOTHING);
        Check.due(x, "gone(0)", x.gone(0), -1, Check.NOTHING);
        Check.due(x, "gone(3)", x.gone(3), -1, Check.NO_SUCH);
        Check.due(x, "dig()", x.dig(), -1, Check.NOTHING);
        Check.due(x, "see(0, 0, 0)", x.see(0, 0, 0), 1, 0);
        // Land behind the stories counts for them.
        StoneWalk y = Check.told(LEAST + STORIES + ";land trees 100 grows 4 people 50");
        Check.due(y, "trees(0, 2)", y.trees(0, 2), 94, 0);
    }

    private static void withoutIsland() {
        StoneWalk x = new StoneWalk();
        Check.due(x, "trees()", x.trees(0, 0), -1, Check.NO_SUCH);
        Check.due(x, "see()", x.see(0, 0, 0), -1, Check.NO_SUCH);
        Check.due(x, "see() of a bad number", x.see(-1, 0, 0), -1, Check.NO_SUCH);
        Check.due(x, "fits()", x.fits(), -1, Check.NO_SUCH);
        Check.due(x, "weight()", x.weight(), -1, Check.NO_SUCH);
        Check.due(x, "gone()", x.gone(0), -1, Check.NO_SUCH);
        Check.due(x, "dig()", x.dig(), -1, Check.NO_SUCH);
        Check.due(x, "lived()", x.lived(true), -1, Check.NO_SUCH);
        Check.due("forget()", x.forget(), 0);
    }
}
