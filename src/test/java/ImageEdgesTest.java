/** Promises 10 to 13: a test for each sentence about the image that names an edge. */
public final class ImageEdgesTest {
    private static final Check CHECK = new Check();
    private static final String[] MONTHS = {"Ja", "F", "Mar", "Ap", "May", "Jun"};

    public static void main(String[] args) {
        compileRefused();
        oneSecondBefore();
        firstAndLastChanges();
        whatHolds();
        twoBytesOfChanges();
        fourBytesOfAChange();
        oneByteOfAType();
        oneByteOfTypes();
        bytesOfAType();
        typesAsTheyCome();
        notAbove();
        bytesWithout();
        noByte();
        lookWithout();
        lookWhat();
        steps();
        compiledAnew();
        CHECK.finish();
    }

    private static int number(ZoneDesk desk, int at, int bytes) {
        int value = 0;
        for (int i = 0; i < bytes; i++) {
            value = value << 8 | desk.image(at + i);
        }
        return value;
    }

    private static void compileRefused() {
        CHECK.sentence("COMPILING (at least one era is there, the last one without UNTIL); IllegalStateException when there is no era, or the last one has an UNTIL.");
        ZoneDesk desk = new ZoneDesk();
        CHECK.due("a new object", Check.ISE, desk::compile);
        Check.line(desk, "R 0 1970 max Jan 1 0u 1 S");
        CHECK.due("rules alone", Check.ISE, desk::compile);
        for (int eras = 1; eras <= 3; eras++) {
            Check.line(desk, "Z " + eras + " 0 A 199" + eras);
            CHECK.due(eras + " eras with UNTIL", Check.ISE, desk::compile);
            CHECK.due("no image by that", 0, desk.bytes());
        }
        Check.line(desk, "Z 4 0 A");
        CHECK.due("a last one without", 4, desk.compile());
        ZoneDesk four = Check.desk("Z 1 - A 1990", "Z 1 - A 1991", "Z 1 - A 1992", "Z 1 - A 1993");
        CHECK.due("four with UNTIL", Check.ISE, four::compile);
        CHECK.due("one without", 0, Check.desk("Z 1 - A").compile());
    }

    private static void oneSecondBefore() {
        CHECK.sentence("CHANGES are the instants .. at which what holds is not what held one second before");
        ZoneDesk desk = Check.desk("R 0 2001 only Mar 1 0u 1 X", "R 0 2001 only Mar 1 0:00:01u 2 Y", "Z 0 0 %s");
        CHECK.due("two changes a second apart", 2, desk.compile());
        CHECK.due("the first", (int) Check.at("2001-03-01T00:00:00"), number(desk, 2, 4));
        CHECK.due("the second", (int) Check.at("2001-03-01T00:00:01"), number(desk, 6, 4));
        CHECK.due("two firings at one instant", 1,
            Check.desk("R 0 2001 only Mar 1 0u 1 X", "R 0 2001 only Mar 1 0u 2 Y", "Z 0 0 %s").compile());
        CHECK.due("two that undo one another at one instant", 0,
            Check.desk("R 0 2001 only Mar 1 0u 1 X", "R 0 2001 only Mar 1 0u 0 -", "Z 0 0 %s").compile());
        CHECK.due("a firing that changes nothing", 0, Check.desk("R 0 1970 max Mar 1 0u 0 -", "Z 0 0 %s").compile());
        CHECK.due("firings that change something once", 1, Check.desk("R 0 1970 max Mar 1 0u 1 X", "Z 0 0 %s").compile());
        CHECK.due("an era's end that changes nothing", 0, Check.desk("Z 1 - A 1990", "Z 1 0:00 A").compile());
        CHECK.due("an era's end with a firing", 1, Check.desk("R 0 1990 only Jan 1 0u 1 X", "Z 0 0 %s 1990 Jan 1 0u", "Z 0 0 %s").compile());
        CHECK.due("an era's end that a firing undoes", 0, Check.desk("R 0 1990 only Jan 1 0u 1 -", "Z 1 - A 1990 Jan 1 0u", "Z 1 1 A").compile());
        CHECK.due("an era that never comes", 1, Check.desk("Z 1 - A 1990", "Z 2 - B 1989", "Z 3 - C").compile());
        CHECK.due("an era of one second", 2, Check.desk("Z 0 - A 1990 Jan 1 0u", "Z 0 - B 1990 Jan 1 0:00:01u", "Z 0 - C").compile());
        CHECK.due("an era of no second", 1, Check.desk("Z 0 - A 1990 Jan 1 0u", "Z 0 - B 1990 Jan 1 0u", "Z 0 - C").compile());
        CHECK.due("a firing one second before its era", 1,
            Check.desk("R 0 1989 only D 31 23:59:59u 1 X", "Z 1 - A 1990 Jan 1 0u", "Z 0 0 %s").compile());
        CHECK.due("a firing one second behind its era's beginning", 2,
            Check.desk("R 0 1990 only Jan 1 0:00:01u 1 X", "Z 1 - A 1990 Jan 1 0u", "Z 0 0 %s").compile());
        CHECK.due("a firing at its era's end", 1,
            Check.desk("R 0 1990 only Jan 1 0u 1 X", "Z 0 0 %s 1990 Jan 1 0u", "Z 5 - B").compile());
        CHECK.due("a firing one second before its era's end", 2,
            Check.desk("R 0 1989 only D 31 23:59:59u 1 X", "Z 0 0 %s 1990 Jan 1 0u", "Z 5 - B").compile());
        CHECK.due("a firing that another one has overtaken", 1,
            Check.desk("R 0 1980 only Mar 1 10u 1 X", "R 0 1980 only Mar 1 12s 2 Y", "Z 5 0 %s").compile());
    }

    private static void firstAndLastChanges() {
        CHECK.sentence("the instants, from -2147483647 to 2147483647");
        ZoneDesk desk = Check.desk("R 0 2037 only D W>=31 24:59:59 0 X", "R 0 1970 max Jan 1 0 -24:59:59 Y",
            "Z 24:59:59 24:59:59 A 1970 Jan F<=1 0", "Z -24:59:59 0 %s");
        CHECK.due("changes", 3, desk.compile());
        CHECK.due("the first that lines can make", (int) (Check.at("1969-12-26T00:00:00") - 179998), number(desk, 2, 4));
        CHECK.due("the last that lines can make", (int) (Check.at("2038-01-07T00:59:59") + 179998), number(desk, 10, 4));
        CHECK.due("what holds at -2147483648", 0, desk.look(-2147483648L, 2));
        CHECK.due("what holds long before", 0, desk.look(-2147483649L, 2));
        CHECK.due("what holds at 2147483647", 3, desk.look(2147483647L, 2));
        CHECK.due("what holds long behind", 3, desk.look(2147483648L, 2));
    }

    private static void whatHolds() {
        CHECK.sentence("what holds (offset, save not 0, name)");
        CHECK.due("the offset alone, by a second", 1, Check.desk("Z 1 - A 1990", "Z 1:00:01 - A").compile());
        CHECK.due("save not 0 alone", 1, Check.desk("Z 1 - A 1990", "Z 0 1:00 A").compile());
        CHECK.due("another save, neither of them 0", 0, Check.desk("Z 0 2:00 A 1990", "Z 1 1:00 A").compile());
        CHECK.due("the name alone, by its eighth character", 1, Check.desk("Z 1 - ABCDEFGH 1990", "Z 1 - ABCDEFGX").compile());
        CHECK.due("the name alone, by its length", 1, Check.desk("Z 1 - AB 1990", "Z 1 - ABC").compile());
        CHECK.due("an empty name", 1, Check.desk("Z 1 - A 1990", "Z 1 - /A").compile());
        CHECK.due("letters behind the eighth character", 1,
            Check.desk("R 0 1980 only Mar 1 0u 0 XYA", "R 0 1981 only Mar 1 0u 0 XYB", "Z 0 0 ABCDEF%s").compile());
        CHECK.due("another format, the same name", 0, Check.desk("Z 1 - A 1990", "Z 1 - A%s 1991", "Z 1 - A/B").compile());
    }

    /** Each rule and each year makes a change of its own. */
    private static ZoneDesk desk(int rules, int lastRuleTo) {
        ZoneDesk desk = new ZoneDesk();
        for (int i = 0; i < rules; i++) {
            int to = i == rules - 1 ? lastRuleTo : 2037;
            CHECK.due("rule", 1, Check.line(desk, "R 0 1970 " + to + " " + MONTHS[i] + " 2 0u " + (i + 1) + " A"));
        }
        CHECK.due("era", 2, Check.line(desk, "Z 0 0 %s"));
        return desk;
    }

    private static void twoBytesOfChanges() {
        CHECK.sentence("two for how many changes there are (the higher byte first, here and below)");
        // Three rules make 204 changes, a fourth one for each of its years.
        int[] lastYears = {2020, 2021, 2022, 2037};
        int[] due = {255, 256, 257, 272};
        for (int i = 0; i < due.length; i++) {
            ZoneDesk desk = desk(4, lastYears[i]);
            CHECK.due("compile", due[i], desk.compile());
            CHECK.due("the higher byte", due[i] / 256, desk.image(0));
            CHECK.due("the lower byte", due[i] % 256, desk.image(1));
            CHECK.due("bytes", 2 + 5 * due[i] + 1 + 13 * 5, desk.bytes());
        }
        ZoneDesk none = Check.desk("Z 1 - A");
        CHECK.due("compile", 0, none.compile());
        CHECK.due("no changes", "0 0 1 16", none.image(0) + " " + none.image(1) + " " + none.image(2) + " " + none.bytes());
        ZoneDesk most = desk(6, 2037);
        CHECK.due("six rules", 408, most.compile());
        CHECK.due("six rules", "1 152", most.image(0) + " " + most.image(1));
        CHECK.due("six rules, bytes", 2 + 5 * 408 + 1 + 13 * 7, most.bytes());
    }

    private static void fourBytesOfAChange() {
        CHECK.sentence("four for each change, its instant (as 32 bits)");
        String[] untils = {"1970 Jan 1 0:00:01u", "1970 Jan 1 0u", "1970 Jan 1 0:04:16u", "1970 Jan 1 18:12:16u", "2037 D 31 0u"};
        String[] due = {"0 0 0 1", "0 0 0 0", "0 0 1 0", "0 1 0 0", "127 230 198 0"};
        for (int i = 0; i < untils.length; i++) {
            ZoneDesk desk = Check.desk("Z 1 - A " + untils[i], "Z 2 - B");
            CHECK.due("compile", 1, desk.compile());
            CHECK.due(untils[i], due[i], desk.image(2) + " " + desk.image(3) + " " + desk.image(4) + " " + desk.image(5));
        }
        ZoneDesk below = Check.desk("Z 0:00:01 - A 1970", "Z 2 - B");
        below.compile();
        CHECK.due("-1", "255 255 255 255", below.image(2) + " " + below.image(3) + " " + below.image(4) + " " + below.image(5));
        CHECK.due("-2 is before it", 0, below.look(-2, 2));
        CHECK.due("-1 is not", 1, below.look(-1, 2));
    }

    private static void oneByteOfAType() {
        CHECK.sentence("one byte for each, its TYPE");
        ZoneDesk desk = Check.desk("R 0 1980 1982 Mar 1 0u 1 S", "R 0 1980 1982 O 1 0u 0 -", "Z 0 0 A%s");
        CHECK.due("compile", 6, desk.compile());
        for (int i = 0; i < 6; i++) {
            CHECK.due("type of change " + i, i % 2 == 0 ? 1 : 0, desk.image(2 + 24 + i));
        }
    }

    private static void oneByteOfTypes() {
        CHECK.sentence("one byte for how many types there are");
        CHECK.due("one", 1, typesOf(Check.desk("Z 1 - A")));
        CHECK.due("two", 2, typesOf(Check.desk("Z 1 - A 1990", "Z 2 - B")));
        CHECK.due("one again", 2, typesOf(Check.desk("Z 1 - A 1990", "Z 2 - B 1991", "Z 1 - A 1992", "Z 2 - B")));
        CHECK.due("four", 4, typesOf(Check.desk("Z 1 - A 1990", "Z 2 - B 1991", "Z 3 - C 1992", "Z 4 - D")));
        CHECK.due("seven", 7, typesOf(desk(6, 2037)));
    }

    private static int typesOf(ZoneDesk desk) {
        int changes = desk.compile();
        int types = desk.image(2 + 5 * changes);
        CHECK.due("bytes", 2 + 5 * changes + 1 + 13 * types, desk.bytes());
        return types;
    }

    private static void bytesOfAType() {
        CHECK.sentence("for each type four bytes for the offset, one for 1 or 0, and eight for the name (0 behind it)");
        String[] eras = {"Z 0 - A", "Z 0:00:01 - ABCDEFGH", "Z -0:00:01 - /B", "Z 0 0:04:16 AB", "Z 24:59:59 24:59:59 %z", "Z -24:59:59 -24:59:59 %z"};
        int[][] due = {{0, 0, 0, 0, 0, 'A', 0, 0, 0, 0, 0, 0, 0}, {0, 0, 0, 1, 0, 'A', 'B', 'C', 'D', 'E', 'F', 'G', 'H'},
            {255, 255, 255, 255, 0, 0, 0, 0, 0, 0, 0, 0, 0}, {0, 0, 1, 0, 1, 'A', 'B', 0, 0, 0, 0, 0, 0},
            {0, 2, 191, 30, 1, '+', '4', '9', '5', '9', 0, 0, 0}, {255, 253, 64, 226, 1, '-', '4', '9', '5', '9', 0, 0, 0}};
        for (int i = 0; i < eras.length; i++) {
            ZoneDesk desk = Check.desk(eras[i]);
            CHECK.due("compile", 0, desk.compile());
            for (int at = 0; at < 13; at++) {
                CHECK.due(eras[i] + ", byte " + at, due[i][at], desk.image(3 + at));
            }
        }
        ZoneDesk shorter = Check.desk("Z 1 - ABCDEFGH 1990", "Z 1 - X");
        shorter.compile();
        CHECK.due("a short name behind a long one", "88 0 0", shorter.image(26) + " " + shorter.image(27) + " " + shorter.image(33));
    }

    private static void typesAsTheyCome() {
        CHECK.sentence("type 0 is what holds at -2147483648, and each further one is added when it comes first");
        ZoneDesk desk = Check.desk("R 0 1980 only Mar 1 0u 0 X", "R 0 1981 only Mar 1 0u 0 Y", "R 0 1982 only Mar 1 0u 0 -",
            "R 0 1983 only Mar 1 0u 0 Y", "R 0 1984 only Mar 1 0u 0 Z", "R 0 1985 only Mar 1 0u 0 X", "Z 0 0 N%s");
        int[] types = {1, 2, 0, 2, 3, 1};
        CHECK.due("compile", 6, desk.compile());
        for (int i = 0; i < types.length; i++) {
            CHECK.due("type of change " + i, types[i], desk.image(2 + 24 + i));
        }
        int[] letters = {0, 'X', 'Y', 'Z'};
        for (int type = 0; type < letters.length; type++) {
            CHECK.due("name of type " + type, letters[type], desk.image(2 + 30 + 1 + 13 * type + 6));
        }
        ZoneDesk never = Check.desk("R 0 1980 only Mar 1 0u 0 X", "R 0 1980 only Mar 1 0u 0 Y", "Z 0 0 N%s 1990", "Z 0 0 N%s 1980", "Z 0 0 N%s");
        CHECK.due("compile", 1, never.compile());
        CHECK.due("what never holds is no type", 2, never.image(2 + 5));
        CHECK.due("its name", (int) 'Y', never.image(2 + 5 + 1 + 13 + 6));
    }

    private static void notAbove() {
        CHECK.sentence("the type of the last change not above it (type 0 before all)");
        ZoneDesk desk = Check.desk("Z 1 - A 1980 Jan 1 0u", "Z 2 - B 1990 Jan 1 0u", "Z 3 1:00 C");
        desk.compile();
        long a = Check.at("1980-01-01T00:00:00");
        long b = Check.at("1990-01-01T00:00:00");
        long[] at = {Long.MIN_VALUE, -4294967296L + a, a - 1, a, a + 1, b - 1, b, b + 1, 4294967296L, Long.MAX_VALUE};
        int[] due = {0, 0, 0, 1, 1, 1, 2, 2, 2, 2};
        int[] offsets = {3600, 7200, 14400};
        for (int i = 0; i < at.length; i++) {
            CHECK.due("type at " + at[i], due[i], desk.look(at[i], 2));
            CHECK.due("offset at " + at[i], offsets[due[i]], desk.look(at[i], 0));
            CHECK.due("save at " + at[i], due[i] == 2 ? 1 : 0, desk.look(at[i], 1));
        }
        ZoneDesk none = Check.desk("Z -1 - A");
        none.compile();
        CHECK.due("no changes at all", "-3600 0 0 0", none.look(0, 0) + " " + none.look(0, 1) + " " + none.look(0, 2) + " " + none.look(0, 3));
    }

    private static void bytesWithout() {
        CHECK.sentence("How many bytes the image has (0 without one).");
        ZoneDesk desk = new ZoneDesk();
        CHECK.due("a new object", 0, desk.bytes());
        Check.line(desk, "Z 1 - A");
        CHECK.due("before compile", 0, desk.bytes());
        desk.compile();
        CHECK.due("behind compile", 16, desk.bytes());
        desk.clear();
        CHECK.due("behind clear", 0, desk.bytes());
    }

    private static void noByte() {
        CHECK.sentence("Byte i of the image; -1 when there is none.");
        ZoneDesk desk = Check.desk("Z -1 - ABCDEFGH");
        CHECK.due("no image", -1, desk.image(0));
        desk.compile();
        CHECK.due("the first", 0, desk.image(0));
        CHECK.due("one above 127", 255, desk.image(3));
        CHECK.due("the last", (int) 'H', desk.image(15));
        for (int i : new int[] {-1, 16, 17, 3000, Integer.MIN_VALUE, Integer.MAX_VALUE}) {
            CHECK.due("byte " + i, -1, desk.image(i));
        }
        desk.clear();
        CHECK.due("no image any more", -1, desk.image(0));
        CHECK.due("no image any more", -1, desk.image(15));
    }

    private static void lookWithout() {
        CHECK.sentence("IllegalStateException without an image (look)");
        ZoneDesk desk = Check.desk("Z 1 - A");
        for (int what = -1; what <= 4; what++) {
            int asked = what;
            CHECK.due("what " + what, Check.ISE, () -> desk.look(0, asked));
        }
        desk.compile();
        CHECK.due("with one", 3600, desk.look(0, 0));
        desk.clear();
        CHECK.due("without one again", Check.ISE, () -> desk.look(0, 0));
    }

    private static void lookWhat() {
        CHECK.sentence("IllegalArgumentException when what is not 0 .. 3");
        ZoneDesk desk = Check.desk("Z 1 1:00 A 1990", "Z 1 - A");
        desk.compile();
        CHECK.due("0 .. 3", "7200 1 0 1", desk.look(0, 0) + " " + desk.look(0, 1) + " " + desk.look(0, 2) + " " + desk.look(0, 3));
        for (int what : new int[] {-1, 4, 5, 256, Integer.MIN_VALUE, Integer.MAX_VALUE}) {
            CHECK.due("what " + what, Check.IAE, () -> desk.look(0, what));
        }
    }

    private static void steps() {
        CHECK.sentence("how many steps it took: (the number of halvings of the row of changes, the middle at (low + high + 1) / 2 of places low and high, -1 and the last one at first, until they are the same)");
        int[][] due = {{0}, {1, 1}, {1, 2, 2}, {2, 2, 2, 2}, {2, 2, 2, 3, 3}, {2, 3, 3, 2, 3, 3}};
        for (int changes = 0; changes < due.length; changes++) {
            for (int place = -1; place < changes; place++) {
                CHECK.due("place " + place + " of " + changes, due[changes][place + 1], stepsTo(changes, place));
            }
        }
        for (int changes : new int[] {6, 7, 8, 9, 15, 16, 17, 63, 64, 127, 128, 136}) {
            for (int place : new int[] {-1, 0, changes / 2 - 1, changes / 2, changes - 2, changes - 1}) {
                CHECK.due("place " + place + " of " + changes, halvings(changes, place), stepsTo(changes, place));
            }
        }
        ZoneDesk most = desk(6, 2037);
        most.compile();
        CHECK.due("408 changes, before all", 8, most.look(Long.MIN_VALUE, 3));
        CHECK.due("408 changes, behind all", 9, most.look(Long.MAX_VALUE, 3));
    }

    /** In March the clock is set forth, in October back, so often that there are so many changes. */
    private static int stepsTo(int changes, int place) {
        ZoneDesk desk = new ZoneDesk();
        if (changes > 0) {
            Check.line(desk, "R 0 1970 " + (1969 + (changes + 1) / 2) + " Mar 1 0u 1 A");
        }
        if (changes > 1) {
            Check.line(desk, "R 0 1970 " + (1969 + changes / 2) + " O 1 0u 0 A");
        }
        Check.line(desk, "Z 0 0 A");
        CHECK.due("changes", changes, desk.compile());
        return desk.look(place < 0 ? Long.MIN_VALUE : number(desk, 2 + 4 * place, 4), 3);
    }

    private static int halvings(int changes, int place) {
        int low = -1;
        int high = changes - 1;
        int steps = 0;
        while (low != high) {
            int middle = (low + high + 1) / 2;
            low = middle <= place ? middle : low;
            high = middle <= place ? high : middle - 1;
            steps++;
        }
        return steps;
    }

    private static void compiledAnew() {
        CHECK.sentence("Compiles: how many changes the image has.");
        ZoneDesk desk = desk(6, 2037);
        CHECK.due("many", 408, desk.compile());
        String first = java.util.Arrays.toString(Check.image(desk));
        CHECK.due("once more", 408, desk.compile());
        CHECK.due("the same image", first, java.util.Arrays.toString(Check.image(desk)));
        desk.clear();
        Check.line(desk, "Z 1 - A 1970 Jan 1 0u");
        Check.line(desk, "Z 2 - B");
        CHECK.due("few behind many", 1, desk.compile());
        CHECK.due("a small image behind a great one", "[0, 1, 0, 0, 0, 0, 1, 2, 0, 0, 14, 16, 0, 65, 0, 0, 0, 0, 0, 0, 0, "
            + "0, 0, 28, 32, 0, 66, 0, 0, 0, 0, 0, 0, 0]", java.util.Arrays.toString(Check.image(desk)));
        Check.line(desk, "R 0 1990 only Jan 1 0u 1 A");
        CHECK.due("a rule of no era", 1, desk.compile());
        ZoneDesk grows = Check.desk("Z 1 0 A");
        CHECK.due("no rule yet", 0, grows.compile());
        Check.line(grows, "R 0 1990 only Jan 1 0u 1 A");
        CHECK.due("the image is as it was", 16, grows.bytes());
        CHECK.due("with the rule", 1, grows.compile());
        CHECK.due("the image has grown", 16 + 5 + 13, grows.bytes());
    }
}
