/** Term I and promises 1 to 5: a test of each sentence that names a bound or an edge. */
public final class TextEdgeTest {
    private static final String LEAST = Text.LEAST;
    private static final String LAST = "; statue z tons 99 lean 30 edge 20 tried";

    public static void main(String[] args) {
        tapeHasNineHundredBytes();
        twentyBytesOrNone();
        highestByteFirst();
        textOfAllTheTape();
        firstBytesOfTheTape();
        tapeIsEmptyThen();
        onlyBlanksPart();
        wordsOfOneToEight();
        wholesOfOneToThree();
        singleSigns();
        linesAndSemicolons();
        wayLine();
        roadLine();
        sixSlopes();
        statueLine();
        lyingLine();
        eightThatLie();
        trialLine();
        landFieldsHouses();
        oneOfEach();
        storyLine();
        tellerLine();
        unlikeOnes();
        tryLine();
        namesThatAreNone();
        toldOnceAheadOfUse();
        eachWordWhereItStands();
        noWholeIsAWord();
        theEndIsAPlace();
        lacks();
        firstFromTheLeft();
        noIsland();
        faultOfTheLatest();
        placeOfTheLatest();
        Check.end("TextEdgeTest");
    }

    /** "THE TAPE has 900 bytes"; "NONE, and none comes, if there would be more than 900". */
    private static void tapeHasNineHundredBytes() {
        StoneWalk x = new StoneWalk();
        for (int round = 0; round < 3; round++) {
            for (int i = 1; i <= 45; i++) {
                Check.due("feed " + i, x.feed(-1, 0, 1, 2, 3), 20 * i);
                Check.due("size(9) behind feed " + i, x.size(9), 20 * i);
            }
            for (int i = 0; i < 3; i++) {
                Check.due("a feed more", x.feed(0, 0, 0, 0, 0), -1);
                Check.due("size(9) behind it", x.size(9), 900);
            }
            Check.due(x, "island(901)", x.island(901), -1, Check.NUMBER);
            Check.due("size(9) behind island(901)", x.size(9), 900);
            Check.due("a feed more still", x.feed(0, 0, 0, 0, 0), -1);
            Check.due(x, "island(900)", x.island(900), -1, Check.FAULT);
            Check.due("size(9) behind island(900)", x.size(9), 0);
        }
    }

    /** "Twenty bytes come behind THE TAPE": behind what it has, all of them. */
    private static void twentyBytesOrNone() {
        StoneWalk x = new StoneWalk();
        Check.due("one feed", Check.feed(x, "way w sled weighs 1 "), 20);
        Check.due("another feed", Check.feed(x, "pull 1 ;            "), 40);
        Check.due(x, "island(40)", x.island(40), -1, Check.FAULT);
        Check.due("the text goes on to its end", x.where(), 40);
        // What was fed without room isn't there later.
        StoneWalk y = new StoneWalk();
        Check.feed(y, LEAST + blanks(900 - LEAST.length()));
        Check.due("no room", Check.feed(y, "!"), -1);
        Check.due(y, "island(900)", y.island(900), 1, 0);
        Check.due(y, "island(1), nothing left", y.island(1), -1, Check.NUMBER);
    }

    /** "of each number the highest first": each of the twenty in its place, each of 0 .. 255. */
    private static void highestByteFirst() {
        for (int at = 0; at < 20; at++) {
            int[] numbers = new int[5];
            for (int i = 0; i < 20; i++) {
                int b = i == at ? '.' : ' ';
                numbers[i / 4] |= b << 24 - i % 4 * 8;
            }
            StoneWalk x = new StoneWalk();
            x.feed(numbers[0], numbers[1], numbers[2], numbers[3], numbers[4]);
            Check.due(x, "island(20)", x.island(20), -1, Check.FAULT);
            Check.due("the place of byte " + at, x.where(), at);
        }
    }

    private static String blanks(int many) {
        return " ".repeat(Math.max(0, many));
    }

    /** A text of all 900 bytes: a TOKEN may end at the last one, or be cut by it. */
    private static void textOfAllTheTape() {
        String text = LEAST + blanks(900 - LEAST.length() - LAST.length()) + LAST;
        StoneWalk x = new StoneWalk();
        Check.due("a text of 900", Check.feed(x, text), 900);
        Check.due(x, "island(900)", x.island(900), 2, 0);
        Check.due("the last of it", x.statue(1, 3), 4);
        Check.due("the tons of the last", x.statue(1, 0), 99);
        Check.feed(x, text);
        Check.due(x, "island(899)", x.island(899), -1, Check.FAULT);
        Check.due("fault() of a cut word", x.fault(), 1);
        Check.due("where() of a cut word", x.where(), 895);
        Text.fault(1, LEAST + blanks(899 - LEAST.length()), ",");
        Text.fault(1, LEAST + blanks(899 - LEAST.length()) + ";", "");
        Text.fault(6, "way w sled weighs 1 pull 1" + blanks(874), "");
        Text.fault(1, blanks(900), "");
    }

    /** "The first n bytes of THE TAPE": 0 up to all that it has. */
    private static void firstBytesOfTheTape() {
        String text = LEAST + ";statue b tons 5 lean 1 edge 1 cut";
        for (int n = 0; n <= text.length(); n++) {
            StoneWalk x = new StoneWalk();
            Check.feed(x, text);
            boolean whole = n == LEAST.length() || n == text.length();
            int due = whole ? n == text.length() ? 2 : 1 : -1;
            Check.due(x, "the first " + n, x.island(n), due, whole ? 0 : Check.FAULT);
        }
        StoneWalk y = new StoneWalk();
        Check.due(y, "island(1) of an empty tape", y.island(1), -1, Check.NUMBER);
        Check.feed(y, "way w sled weighs 1 ");
        Check.due(y, "island(21)", y.island(21), -1, Check.NUMBER);
        Check.due(y, "island(-1)", y.island(-1), -1, Check.NUMBER);
        Check.due("size(9)", y.size(9), 20);
        Check.due(y, "island(20)", y.island(20), -1, Check.FAULT);
    }

    /** "(it is empty then)", by a FAULT, too; by 2 "THE TAPE stays". */
    private static void tapeIsEmptyThen() {
        StoneWalk x = new StoneWalk();
        Check.feed(x, LEAST);
        x.island(-1);
        x.island(901);
        Check.due("size(9) behind 2", x.size(9), 100);
        Check.due(x, "island() of what stayed", x.island(LEAST.length()), 1, 0);
        Check.due("size(9) behind an island", x.size(9), 0);
        Check.feed(x, LEAST);
        Check.due(x, "island(3)", x.island(3), -1, Check.FAULT);
        Check.due("size(9) behind a fault", x.size(9), 0);
        Check.feed(x, LEAST);
        Check.due(x, "island(0)", x.island(0), -1, Check.FAULT);
        Check.due("size(9) behind island(0)", x.size(9), 0);
        Check.due("the first feed again", x.feed(0, 0, 0, 0, 0), 20);
    }

    /** "blanks, 32, part TOKENS and mean nothing else". */
    private static void onlyBlanksPart() {
        for (int b = 0; b < 256; b++) {
            char c = (char) b;
            if (c == ' ') {
                Text.sound(c + LEAST + c);
                continue;
            }
            Text.fault(1, "", c + (c >= 'a' && c <= 'z' ? " " : "") + LEAST);
            Text.fault(1, LEAST + " " + (c == ';' ? ";" : ""), c == ';' ? "" : "" + c);
            Text.fault(1, "way " + (c >= 'a' && c <= 'z' ? c + " " : ""), c + " sled");
        }
        Text.sound(blanks(100) + LEAST.replace(" ", "     ") + blanks(100));
        Text.sound(LEAST.replace(",", " ,  ").replace(";", "   ; "));
        Text.fault(1, "", "w ay w sled weighs 1 pull 1");
        Text.fault(1, "way w sled weighs 1 pull 1 ", "1;road r hollow 1 slopes up 1");
    }

    /** "WORDS of 1 to 8 small letters that stand together". */
    private static void wordsOfOneToEight() {
        for (String name : new String[] {"a", "b", "z", "az", "zz", "abcdefgh", "zzzzzzzz"}) {
            Text.sound("way w sled weighs 1 pull 1;road r hollow 1 slopes up 1;statue " + name
                + " tons 1 lean 1 edge 1 cut");
        }
        Text.fault(1, "way ", "abcdefghi sled weighs 1 pull 1");
        Text.fault(1, "way ", "zzzzzzzzzzzzzzzzzzzzzzzz sled");
        Text.fault(1, "", "wayway w sled");
        Text.fault(1, "", "wa w sled");
        Text.fault(1, "", "wayw sled");
        Text.fault(1, "way w ", "sledge weighs 1");
        Text.fault(1, "way w ", "sle weighs 1");
        // A NAME is all its letters: neither a part of it nor more.
        String ways = LEAST + ";way abcdefg sled weighs 1 pull 1;way abcdefgh sled weighs 1 pull 1"
            + ";way bcdefgh sled weighs 1 pull 1";
        Text.sound(ways);
        Text.fault(2, ways + ";teller o year 1 means abcdefgh,", "abcdef");
        Text.fault(2, ways + ";teller o year 1 means ", "abcdefgg");
        Text.fault(3, ways + ";road ", "bcdefgh hollow 1");
        Text.fault(2, LEAST + ";teller o year 1 means ", "ww");
    }

    /** "WHOLES of 1 to 3 digits that do". */
    private static void wholesOfOneToThree() {
        String[] sevens = {"7", "07", "007"};
        for (String seven : sevens) {
            StoneWalk x = Check.told(LEAST + ";statue b tons " + seven + " lean 1 edge 1 cut");
            Check.due("tons of " + seven, x.statue(1, 0), 7);
        }
        Text.fault(1, LEAST + ";statue b tons ", "0007 lean 1 edge 1 cut");
        Text.fault(1, LEAST + ";statue b tons ", "1000 lean 1 edge 1 cut");
        Text.fault(1, LEAST + ";statue b tons ", "00000000000000000007");
        Text.fault(4, LEAST + ";statue b tons ", "000 lean 1 edge 1 cut");
        Text.sound(LEAST + ";land trees 000 grows 050 people 999");
        Text.sound(LEAST + ";fields 999 feeds 99;houses 999 holds 20 to 40");
        // Without a blank between letters and digits.
        StoneWalk y = Check.told(LEAST + ";statue b tons99lean30edge20cut");
        Check.due("tons99", y.statue(1, 0), 99);
        Check.due("edge20", y.statue(1, 2), 20);
    }

    /** "single ones of ; ,". */
    private static void singleSigns() {
        Text.fault(1, "road r hollow 1 slopes up 1,", ",up 1");
        Text.fault(1, LEAST + ";", ";statue b");
        Text.fault(1, LEAST + ";", ",statue b");
        Text.fault(1, LEAST, ",statue b");
        Text.fault(1, "road r hollow 1 slopes ", ",up 1");
        Text.fault(1, "way w", ";sled");
        Text.fault(1, "way", ",w sled");
        Text.sound("way w sled weighs 1 pull 1;road r hollow 1 slopes up 1,up 1;"
            + "statue a tons 1 lean 1 edge 1 cut");
    }

    /** "LINE {; LINE}": one at least, a ; between each two and nowhere else. */
    private static void linesAndSemicolons() {
        Text.fault(6, "land trees 1 grows 1 people 1", "");
        Text.fault(1, "", ";" + LEAST);
        Text.fault(1, LEAST + ";", "");
        Text.fault(1, LEAST + ";   ", "");
        Text.fault(1, "way w sled weighs 1 pull 1 ", "road r hollow 1 slopes up 1");
        Text.fault(1, "land trees 1 grows 1 people 1 ", "fields 1 feeds 1");
        Text.fault(1, LEAST + " ", "statue b tons 1");
        Text.fault(1, "", "");
        Text.fault(1, " ", "");
    }

    /** "way NAME KIND weighs WHOLE pull WHOLE (.. 1 .. 99, 1 .. 20; up to 4)". */
    private static void wayLine() {
        for (String kind : new String[] {"walked", "sled", "rolled", "dragged"}) {
            Text.sound(LEAST + ";way v " + kind + " weighs 1 pull 1");
        }
        Text.fault(1, LEAST + ";way v ", "carried weighs 1 pull 1");
        Text.bounded("way v sled weighs ", 1, 99, " pull 1");
        Text.bounded("way v sled weighs 1 pull ", 1, 20, "");
        Text.room(3, "way # sled weighs 1 pull 1");
        StoneWalk x = Check.told(LEAST + ";way f dragged weighs 99 pull 20;way h sled weighs 1 pull 19"
            + ";statue b tons 60 lean 1 edge 1 cut");
        // Of a road not hollow: by sled 9, dragged 4.
        Check.due(x, "weighs 99", x.odds(1), 99 * 4, 0);
        Check.due(x, "weighs 1", x.odds(2), 9, 0);
        Check.due(x, "pull 1", x.need(0, 1, 0), 1200, 0);
        Check.due(x, "pull 20", x.need(1, 1, 0), 90, 0);
        Check.due(x, "pull 19", x.need(2, 1, 0), 64, 0);
    }

    /** "road NAME hollow WHOLE slopes SLOPE {, SLOPE} (0 .. 9; ..; up to 3 roads)"; "0 .. 20". */
    private static void roadLine() {
        Text.bounded("road q hollow ", 0, 9, " slopes up 1");
        Text.bounded("road q hollow 1 slopes up ", 0, 20, "");
        Text.bounded("road q hollow 1 slopes down ", 0, 20, "");
        Text.bounded("road q hollow 1 slopes up 1, down ", 0, 20, ", up 1");
        Text.bounded("road q hollow 1 slopes up 1,up 1,up 1,up 1,up 1,up ", 0, 20, "");
        Text.room(2, "road # hollow 1 slopes up 1");
        // "down counts below 0": 0 of them is the level.
        StoneWalk x = Check.told("way w walked weighs 1 pull 1;"
            + "road r hollow 1 slopes up 20,down 20,up 0,down 0,up 1,down 1;"
            + "statue a tons 1 lean 25 edge 9 lies face on r at 0;"
            + "statue b tons 1 lean 25 edge 9 lies face on r at 1;"
            + "statue c tons 1 lean 25 edge 9 lies face on r at 2;"
            + "statue d tons 1 lean 25 edge 9 lies face on r at 3;"
            + "statue e tons 1 lean 25 edge 9 lies face on r at 4;"
            + "statue f tons 1 lean 25 edge 9 lies face on r at 5");
        int[] due = {2, 8, 4, 4, 2, 8};
        for (int t = 0; t < due.length; t++) {
            Check.due(x, "lies(0, " + t + ")", x.lies(0, t), due[t], 0);
        }
        Check.due(x, "canOn(0, 0, 0)", x.canOn(0, 0, 0), 0b111100, 0);
    }

    /** "up to 6 SLOPES"; "a seventh SLOPE, at its up or down". */
    private static void sixSlopes() {
        StringBuilder slopes = new StringBuilder(LEAST + ";road q hollow 1 slopes up 1");
        for (int many = 2; many <= 6; many++) {
            slopes.append(",down 1");
            Text.sound(slopes.toString());
        }
        Text.fault(5, slopes + ",", "up 1");
        Text.fault(5, slopes + ",", "down 1");
        Text.fault(5, slopes + ",", "up");
        Text.fault(5, slopes + ",  ", "up 21");
        Text.fault(5, slopes + ",", "up 1,up 1;way");
        Text.fault(1, slopes + ",", "");
        Text.fault(1, slopes + ",", "1");
        Text.fault(1, slopes + ",", "level 1");
        Text.fault(1, slopes + ",", ",");
        // Of each road so many.
        Text.sound(slopes + ";road p hollow 1 slopes up 1,up 1,up 1,up 1,up 1,up 1");
        Text.fault(1, LEAST + ";road q hollow 1 slopes ", "");
        Text.fault(1, LEAST + ";road q hollow 1 slopes ", ";way v sled weighs 1 pull 1");
    }

    /** "statue NAME tons WHOLE lean WHOLE edge WHOLE SORT (1 .. 99, 0 .. 30, 0 .. 20; up to 10)". */
    private static void statueLine() {
        Text.bounded("statue b tons ", 1, 99, " lean 1 edge 1 cut");
        Text.bounded("statue b tons 1 lean ", 0, 30, " edge 1 cut");
        Text.bounded("statue b tons 1 lean 1 edge ", 0, 20, " cut");
        Text.room(9, "statue # tons 1 lean 1 edge 1 cut");
        String[] sorts = {"cut", "large", "buried", "stood", "tried", "lies face on r at 0"};
        for (int sort = 0; sort < sorts.length; sort++) {
            StoneWalk x = Check.told(LEAST + ";statue b tons 99 lean 30 edge 20 " + sorts[sort]
                + ";statue c tons 1 lean 0 edge 0 " + sorts[sort]);
            Check.due("the sort of " + sorts[sort], x.statue(1, 3), sort);
            Check.due("the greatest tons", x.statue(1, 0), 99);
            Check.due("the greatest lean", x.statue(1, 1), 30);
            Check.due("the greatest edge", x.statue(1, 2), 20);
            Check.due("the least tons", x.statue(2, 0), 1);
            Check.due("the least lean", x.statue(2, 1), 0);
            Check.due("the least edge", x.statue(2, 2), 0);
            Check.due("the sort of the next", x.statue(2, 3), sort);
        }
        Text.fault(1, LEAST + ";statue b tons 1 lean 1 edge 1 ", "sunk");
        Text.fault(1, LEAST + ";statue b tons 1 lean 1 edge 1 ", ";");
        Text.fault(1, LEAST + ";statue b tons 1 lean 1 edge 1 cut ", "lies face on r at 0");
    }

    /** "lies LIE on ROAD at WHOLE (..; from 0 up to how many SLOPES the ROAD has less 1)". */
    private static void lyingLine() {
        String[] lies = {"face", "back", "side"};
        for (int lie = 0; lie < lies.length; lie++) {
            StoneWalk x = Check.told(LEAST + ";statue b tons 1 lean 1 edge 1 lies " + lies[lie]
                + " on r at 1");
            Check.due("how it lies: " + lies[lie], x.statue(1, 4), lie);
            Check.due("on which road", x.statue(1, 5), 0);
            Check.due("where", x.statue(1, 6), 1);
        }
        Text.fault(1, LEAST + ";statue b tons 1 lean 1 edge 1 lies ", "front on r at 1");
        StringBuilder road = new StringBuilder("road q hollow 1 slopes up 1");
        for (int many = 1; many <= 6; many++) {
            String line = road + ";statue b tons 1 lean 1 edge 1 lies side on q at ";
            Text.bounded(line, 0, many - 1, "");
            Text.fault(4, LEAST + ";" + line, "" + many);
            road.append(",down 1");
        }
        // Of its own ROAD: r has 2, q 1.
        Text.fault(4, LEAST + ";road q hollow 1 slopes up 1;"
            + "statue b tons 1 lean 1 edge 1 lies side on q at ", "1");
        Text.sound(LEAST + ";road q hollow 1 slopes up 1;"
            + "statue b tons 1 lean 1 edge 1 lies side on r at 1");
    }

    /** "up to 8 such"; "a ninth that lies, at lies". */
    private static void eightThatLie() {
        StringBuilder text = new StringBuilder(
            "way w sled weighs 1 pull 1;road r hollow 1 slopes up 1");
        for (int i = 1; i <= 8; i++) {
            text.append(";statue ").append((char) ('a' + i));
            text.append(" tons 1 lean 1 edge 1 lies back on r at 0");
            StoneWalk x = Check.told(text.toString());
            Check.due("size(10)", x.size(10), i);
        }
        String ninth = ";statue z tons 1 lean 1 edge 1 ";
        Text.fault(5, text + ninth, "lies back on r at 0");
        Text.fault(5, text + ninth, "lies");
        Text.fault(5, text + ninth, "lies on");
        Text.fault(1, text + ninth, "lie");
        Text.fault(1, text + ninth, "");
        Text.fault(4, text + ";statue z tons 1 lean 1 edge ", "21 lies back on r at 0");
        Text.sound(text + ninth + "tried;statue y tons 1 lean 1 edge 1 large");
        Text.fault(5, text + ninth + "cut;statue y tons 1 lean 1 edge 1 ", "lies back on r at 0");
    }

    /** "trial .. (1 .. 99, 1 .. 200, 1 .. 999, 1 .. 999; up to 5)". */
    private static void trialLine() {
        Text.bounded("trial t of w tons ", 1, 99, " people 1 yards 1 minutes 1");
        Text.bounded("trial t of w tons 1 people ", 1, 200, " yards 1 minutes 1");
        Text.bounded("trial t of w tons 1 people 1 yards ", 1, 999, " minutes 1");
        Text.bounded("trial t of w tons 1 people 1 yards 1 minutes ", 1, 999, "");
        Text.room(5, "trial # of w tons 1 people 1 yards 1 minutes 1");
        StoneWalk x = Check.told(LEAST + ";trial t of w tons 99 people 200 yards 999 minutes 999");
        Check.due(x, "tons and people", x.people(0, 99, true), 200, 0);
        Check.due(x, "yards and minutes", x.takes(0, 999, true), 999, 0);
        StoneWalk y = Check.told(LEAST + ";trial t of w tons 1 people 1 yards 1 minutes 1");
        Check.due(y, "one ton, one man", y.people(0, 4, true), 4, 0);
        Check.due(y, "one yard, one minute", y.takes(0, 9999, true), 9999, 0);
    }

    /** "land .. (0 .. 999, 0 .. 50, 0 .. 999)", "fields .. (0 .. 999, 0 .. 99)", "houses ..". */
    private static void landFieldsHouses() {
        Text.bounded("land trees ", 0, 999, " grows 1 people 1");
        Text.bounded("land trees 1 grows ", 0, 50, " people 1");
        Text.bounded("land trees 1 grows 1 people ", 0, 999, "");
        Text.bounded("fields ", 0, 999, " feeds 1");
        Text.bounded("fields 1 feeds ", 0, 99, "");
        Text.bounded("houses ", 0, 999, " holds 1 to 1");
        Text.bounded("houses 1 holds ", 0, 20, " to 40");
        // "the latter not below the former, 40 at most".
        for (int least = 0; least <= 20; least += 5) {
            Text.bounded("houses 1 holds " + least + " to ", least, 40, "");
        }
        Text.sound(LEAST + ";houses 1 holds 20 to 20");
        Text.fault(4, LEAST + ";houses 1 holds 20 to ", "19");
        Text.fault(4, LEAST + ";houses 1 holds 0 to ", "41");
    }

    /** "a second land, fields, houses; at that WORD". */
    private static void oneOfEach() {
        String[] lines = {
            ";land trees 1 grows 1 people 1", ";fields 1 feeds 1", ";houses 1 holds 1 to 1",
        };
        String all = LEAST + lines[0] + lines[1] + lines[2];
        Text.sound(all);
        for (String line : lines) {
            Text.fault(3, LEAST + line + ";", line.substring(1));
            Text.fault(3, all + ";", line.substring(1));
            Text.fault(3, all + "; ", line.substring(1, line.indexOf(' ')));
        }
    }

    /** "story NAME weighs WHOLE CAUSE (1 .. 99; ..; 0 .. 99, 0 .. 100, 0 .. 100, 1 .. 50; up to 5)". */
    private static void storyLine() {
        Text.bounded("story s weighs ", 1, 99, " rats 1");
        Text.bounded("story s weighs 1 felled ", 0, 99, "");
        Text.bounded("story s weighs 1 rats ", 0, 100, "");
        Text.bounded("story s weighs 1 fires ", 0, 100, " every 1");
        Text.bounded("story s weighs 1 fires 1 every ", 1, 50, "");
        Text.room(5, "story # weighs 1 rats 1");
        Text.fault(1, LEAST + ";story s weighs 1 ", "frost 1");
        Text.fault(1, LEAST + ";story s weighs 1 felled 1 ", "every 1");
        Text.fault(1, LEAST + ";story s weighs 1 fires 1 ", ";");
        StoneWalk x = Check.told(LEAST + ";land trees 1 grows 1 people 1;story s weighs 99 rats 1"
            + ";story u weighs 1 rats 1");
        Check.due(x, "weight()", x.weight(), 100, 0);
    }

    /** "teller NAME year WHOLE means WAY {, WAY}, behind it perhaps stranger (..; up to 3)". */
    private static void tellerLine() {
        Text.bounded("teller o year ", 0, 999, " means w");
        Text.room(3, "teller # year 1 means w");
        Text.room(3, "teller # year 1 means w stranger");
        Text.fault(1, LEAST + ";teller o year 1 means ", "");
        Text.fault(1, LEAST + ";teller o year 1 means ", "stranger");
        Text.fault(1, LEAST + ";teller o year 1 means ", ",w");
        Text.fault(1, LEAST + ";teller o year 1 means w,", "stranger");
        Text.fault(1, LEAST + ";teller o year 1 means w stranger ", "stranger");
        Text.fault(1, LEAST + ";teller o year 1 means w stranger", ",w");
        Text.fault(1, LEAST + ";teller o year 1 means w ", "w");
        Text.fault(1, LEAST + ";teller o year 1 means w,", "");
        Text.fault(1, LEAST + ";teller o year 1 means w,", ";");
    }

    /** "(unlike ones ..)"; "a WAY that a teller means told again; at it". */
    private static void unlikeOnes() {
        String ways = LEAST + ";way v sled weighs 1 pull 1;way u sled weighs 1 pull 1"
            + ";way x sled weighs 1 pull 1;teller o year 1 means ";
        String means = "w";
        for (String more : new String[] {"v", "u", "x"}) {
            Text.fault(3, ways + means + ",", "w");
            Text.fault(3, ways + means + " , ", "w stranger");
            means += "," + more;
            Text.sound(ways + means);
            Text.fault(3, ways + means + ",", more);
        }
        Text.fault(2, ways + means + ",", "o");
        Text.fault(2, ways + means + ",", "y");
        // Of another teller the same ones.
        Text.sound(ways + means + ";teller p year 1 means x,u,v,w stranger");
    }

    /** "try NAME tons WHOLE lean WHOLE edge WHOLE SLOPE (as of statues; up to 5)". */
    private static void tryLine() {
        Text.bounded("try p tons ", 1, 99, " lean 1 edge 1 up 1");
        Text.bounded("try p tons 1 lean ", 0, 30, " edge 1 up 1");
        Text.bounded("try p tons 1 lean 1 edge ", 0, 20, " up 1");
        Text.bounded("try p tons 1 lean 1 edge 1 up ", 0, 20, "");
        Text.bounded("try p tons 1 lean 1 edge 1 down ", 0, 20, "");
        Text.room(5, "try # tons 1 lean 1 edge 1 up 1");
        Text.fault(1, LEAST + ";try p tons 1 lean 1 edge 1 ", "level");
        Text.fault(1, LEAST + ";try p tons 1 lean 1 edge 1 up 1", ",up 1");
    }

    /** "NAMES are WORDS but way, road, statue, ..". */
    private static void namesThatAreNone() {
        String[] none = {"way", "road", "statue", "trial", "land", "fields", "houses", "story",
            "teller", "try", "up", "down", "stranger"};
        String[] lines = {"way ", "road ", "statue ", "trial ", "story ", "teller ", "try ",
            "trial t of ", "teller o year 1 means ", "teller o year 1 means w,",
            "statue b tons 1 lean 1 edge 1 lies face on "};
        for (String word : none) {
            for (String line : lines) {
                Text.fault(1, LEAST + ";" + line, word);
            }
        }
        String[] names = {"walked", "sled", "rolled", "dragged", "weighs", "pull", "hollow", "slopes",
            "tons", "lean", "edge", "cut", "large", "buried", "stood", "tried", "lies", "face",
            "back", "side", "on", "at", "of", "people", "yards", "minutes", "trees", "grows",
            "feeds", "holds", "to", "felled", "rats", "fires", "every", "year", "means",
            "ways", "roads", "field", "house", "stories", "wa", "u", "strange"};
        for (String word : names) {
            Text.sound("way " + word + " sled weighs 1 pull 1;road r hollow 1 slopes up 1;"
                + "statue a tons 1 lean 1 edge 1 cut;trial t of " + word
                + " tons 1 people 1 yards 1 minutes 1;teller o year 1 means " + word + " stranger");
        }
    }

    /** "each told once, ahead of its use"; 2 "isn't told, or is of another sort", 3 "told again". */
    private static void toldOnceAheadOfUse() {
        String all = "way w sled weighs 1 pull 1;road r hollow 1 slopes up 1;"
            + "statue a tons 1 lean 1 edge 1 cut;trial t of w tons 1 people 1 yards 1 minutes 1;"
            + "story s weighs 1 rats 1;teller o year 1 means w;try p tons 1 lean 1 edge 1 up 1";
        String[] told = {"w", "r", "a", "t", "s", "o", "p"};
        String[] sorts = {"way", "road", "statue", "trial", "story", "teller", "try"};
        for (int i = 0; i < told.length; i++) {
            for (String sort : sorts) {
                Text.fault(3, all + ";" + sort + " ", told[i]);
            }
            if (i != 0) {
                Text.fault(2, all + ";trial x of ", told[i] + " tons 1");
                Text.fault(2, all + ";teller x year 1 means ", told[i]);
                Text.fault(2, all + ";teller x year 1 means w,", told[i]);
            }
            if (i != 1) {
                Text.fault(2, all + ";statue x tons 1 lean 1 edge 1 lies face on ", told[i] + " at 0");
            }
        }
        Text.fault(2, all + ";trial x of ", "y");
        Text.fault(2, all + ";trial x of ", "x");
        Text.fault(2, all + ";teller x year 1 means ", "x");
        Text.fault(2, all + ";statue x tons 1 lean 1 edge 1 lies face on ", "x");
        Text.fault(2, "teller o year 1 means ", "w;way w sled weighs 1 pull 1");
        Text.fault(2, "trial t of ", "w tons 1 people 1 yards 1 minutes 1;way w sled weighs 1 pull 1");
        Text.fault(2, "statue a tons 1 lean 1 edge 1 lies face on ", "r at 0;road r hollow 1");
        // Of the island before nothing is told.
        StoneWalk x = Check.told(all);
        Check.due(x, "the same names in another island", Check.tell(x, all), 1, 0);
        Check.due(x, "a way of the island before", Check.tell(x, "trial t of w"), -1, Check.FAULT);
        Check.due("fault()", x.fault(), 2);
    }

    /** 1 FORM: at each TOKEN of a text another one "with which no ISLAND goes on". */
    private static void eachWordWhereItStands() {
        String text = "way w sled weighs 1 pull 2;road r hollow 3 slopes up 4,down 5;"
            + "statue a tons 6 lean 7 edge 8 lies face on r at 1;"
            + "trial t of w tons 1 people 2 yards 3 minutes 4;land trees 5 grows 6 people 7;"
            + "fields 8 feeds 9;houses 1 holds 2 to 3;story s weighs 4 fires 5 every 6;"
            + "teller o year 7 means w stranger;try p tons 8 lean 9 edge 1 down 2";
        Text.sound(text);
        for (int from = 0; from < text.length(); from++) {
            char first = text.charAt(from);
            boolean within = from > 0 && inWord(text.charAt(from - 1));
            if (first == ' ' || within && inWord(first)) {
                continue;
            }
            String word = word(text, from);
            String front = text.substring(0, from) + (within ? " " : "");
            Text.fault(1, front, ".");
            Text.fault(1, front, "0000");
            Text.fault(1, front, "abcdefghi");
            Text.fault(1, front, Character.isDigit(first) ? "way" : "77");
            Text.fault(1, front, word.equals("stranger") ? "land" : "stranger");
            // Behind the WAYS that a teller means perhaps stranger, or the end of the LINE.
            if (inWord(first) && !word.equals("stranger")) {
                Text.fault(1, front, ",");
                Text.fault(1, front, ";");
            }
        }
    }

    /** A WHOLE is no WORD, whatever it is: neither one of the language nor a NAME. */
    private static void noWholeIsAWord() {
        String[] fronts = {"", "way ", "way w ", "road r hollow 1 slopes ", LEAST + ";trial t ",
            LEAST + ";trial t of ", LEAST + ";statue b tons 1 lean 1 edge 1 ",
            LEAST + ";statue b tons 1 lean 1 edge 1 lies face ",
            LEAST + ";statue b tons 1 lean 1 edge 1 lies face on ",
            LEAST + ";statue b tons 1 lean 1 edge 1 lies face on r ",
            LEAST + ";houses 1 holds 1 ", LEAST + ";teller o year 1 means "};
        for (String front : fronts) {
            for (int whole = 0; whole <= 999; whole++) {
                StoneWalk x = new StoneWalk();
                Check.due(front + whole, Check.tell(x, front + whole + " w 1"), -1);
                Check.due("fault() of " + front + whole, x.fault(), 1);
                Check.due("where() of " + front + whole, x.where(), front.length());
            }
        }
    }

    private static boolean inWord(char c) {
        return Character.isLetterOrDigit(c);
    }

    private static String word(String text, int from) {
        int to = from;
        while (to < text.length() && inWord(text.charAt(to))) {
            to++;
        }
        return text.substring(from, to);
    }

    /** "(the end: its place)": how long the text is. */
    private static void theEndIsAPlace() {
        String text = LEAST + ";land trees 1 grows 1 people 1";
        for (int n = 0; n < text.length(); n++) {
            char last = n == 0 ? ' ' : text.charAt(n - 1);
            if (n == 0 || last == ' ' || last == ';' || last == ',') {
                Text.fault(1, text.substring(0, n), "");
                Text.fault(1, text.substring(0, n) + "   ", "");
            }
        }
    }

    /** "6 LACKS, at the end: no way, no road, no statue". */
    private static void lacks() {
        String[] lines = {"way w sled weighs 1 pull 1", "road r hollow 1 slopes up 1",
            "statue a tons 1 lean 1 edge 1 cut"};
        for (int bits = 1; bits < 8; bits++) {
            StringBuilder text = new StringBuilder("fields 1 feeds 1");
            for (int i = 0; i < 3; i++) {
                if ((bits >> i & 1) == 1) {
                    text.append(";").append(lines[i]);
                }
            }
            if (bits == 7) {
                Text.sound(text.toString());
            } else {
                Text.fault(6, text.toString(), "");
                Text.fault(6, text + "  ", "");
                // "of one place the least number": FORM at the end.
                Text.fault(1, text + ";", "");
            }
        }
    }

    /** "the first that is met from the left", though one of less number stands behind. */
    private static void firstFromTheLeft() {
        String faults = "way v sled weighs ";
        Text.fault(4, LEAST + ";" + faults, "100 pull 21");
        Text.fault(4, LEAST + ";" + faults, "0 .");
        Text.fault(4, LEAST + ";" + faults, "0 pull 1;way v");
        Text.fault(3, LEAST + ";way ", "w . 0 0");
        Text.fault(2, LEAST + ";trial t of ", "v tons 0 people");
        Text.fault(3, LEAST + ";trial ", "w of v tons 0");
        Text.fault(2, LEAST + ";statue b tons 1 lean 1 edge 1 lies face on ", "q at 9");
        Text.fault(4, "statue b tons ", "0");
        Text.fault(4, LEAST + ";houses 1 holds ", "21 to 3");
    }

    /** Promise 1: "No ISLAND". */
    private static void noIsland() {
        StoneWalk x = new StoneWalk();
        for (int what = 0; what <= 10; what++) {
            Check.due("size(" + what + ")", x.size(what), 0);
        }
        Check.due("statue(0, 0)", x.statue(0, 0), -1);
        Check.due("fault()", x.fault(), 0);
        Check.due("where()", x.where(), -1);
        Check.due("trouble()", x.trouble(), 0);
        Check.due("forget()", x.forget(), 0);
        Check.due(x, "likeliest()", x.likeliest(), -1, Check.NO_SUCH);
        // A text that is refused leaves it so.
        Check.due(x, "a faulty text", Check.tell(x, State.WHOLE_TEXT + ";"), -1, Check.FAULT);
        for (int what = 0; what <= 10; what++) {
            Check.due("size(" + what + ") behind a fault", x.size(what), 0);
        }
        Check.due(x, "likeliest() behind a fault", x.likeliest(), -1, Check.NO_SUCH);
        Check.no(x, "seed(1) behind a fault", x.seed(1), Check.NO_SUCH);
        Check.due(x, "a text of its own", Check.tell(x, LEAST), 1, 0);
    }

    /** Promise 4: "of the latest island() not refused by 2; 0 without one". */
    private static void faultOfTheLatest() {
        StoneWalk x = new StoneWalk();
        x.island(-1);
        Check.due("fault() behind 2, without one", x.fault(), 0);
        Check.tell(x, State.FAULTY_TEXT);
        Check.due("fault() behind a fault", x.fault(), 4);
        x.island(1);
        Check.due("fault() behind 2", x.fault(), 4);
        x.island(0);
        Check.due("fault() behind another fault", x.fault(), 1);
        Check.tell(x, LEAST);
        Check.due("fault() behind an island", x.fault(), 0);
        x.island(1);
        Check.due("fault() behind 2, of an island", x.fault(), 0);
        x.can(9, 9, 9);
        x.seed(1);
        Check.due("fault() behind other calls", x.fault(), 0);
        Check.tell(x, "way w sled weighs 1 pull 1");
        Check.due("fault() of what lacks", x.fault(), 6);
        x.likeliest();
        x.move(0, 0, 0, 1);
        Check.due("fault() behind calls that are granted", x.fault(), 6);
    }

    /** Promise 5: "if the latest call that may be refused was by 4; NONE else". */
    private static void placeOfTheLatest() {
        StoneWalk x = new StoneWalk();
        Check.due("where() of nothing", x.where(), -1);
        Check.tell(x, State.FAULTY_TEXT);
        Check.due("where() of a fault", x.where(), 20);
        x.island(1);
        Check.due("where() behind 2", x.where(), -1);
        Check.tell(x, State.FAULTY_TEXT);
        Check.due("where() of the fault again", x.where(), 20);
        x.odds(-1);
        Check.due("where() behind 1", x.where(), -1);
        Check.tell(x, LEAST);
        Check.due("where() of an island", x.where(), -1);
        Check.tell(x, " ");
        Check.due("where() of a blank", x.where(), 1);
        x.likeliest();
        Check.due("where() behind a call that is granted", x.where(), -1);
        x.island(0);
        Check.due("where() of the place 0", x.where(), 0);
        x.seed(3);
        Check.due("where() behind seed()", x.where(), -1);
    }
}
