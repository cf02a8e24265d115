/** Promises 1 to 5 and 17: a test for each sentence about lines that names an edge. */
public final class LineEdgesTest {
    private static final Check CHECK = new Check();
    private static final long FAR = 3000000000L;

    public static void main(String[] args) {
        newObject();
        calls();
        writeCharacters();
        writeSixty();
        lineOfSixty();
        blanks();
        times();
        timesWhereverTheyStand();
        months();
        dayNames();
        rulesHaveNineWords();
        sets();
        from();
        to();
        dayNumbers();
        clocks();
        letters();
        erasHaveFourToEightWords();
        saves();
        formatLength();
        untils();
        formatKinds();
        sixRules();
        fourEras();
        erasWithoutUntil();
        emptyThen();
        noWords();
        noneOfThese();
        rulesOfNoSet();
        clear();
        CHECK.finish();
    }

    private static void line(Object want, String text) {
        CHECK.due("line " + text, want, Check.line(new ZoneDesk(), text));
    }

    private static void lines(Object want, String before, String behind, String... words) {
        for (String word : words) {
            line(want, before + word + behind);
        }
    }

    private static void newObject() {
        CHECK.sentence("No rules, no eras, no image, an empty draft.");
        ZoneDesk desk = new ZoneDesk();
        CHECK.due("rules", "0 0 0", desk.rules(0) + " " + desk.rules(1) + " " + desk.rules(2));
        CHECK.due("eras", 0, desk.eras());
        CHECK.due("bytes", 0, desk.bytes());
        CHECK.due("image(0)", -1, desk.image(0));
        CHECK.due("look", Check.ISE, () -> desk.look(0, 0));
        CHECK.due("holds", Check.ISE, () -> desk.holds(0, 0));
        CHECK.due("letter", -1, desk.letter(0, 0));
        CHECK.due("shown", 0, desk.shown(0));
        CHECK.due("instant", Check.NSE, Check.kth(desk, 0, 0));
        CHECK.due("compile", Check.ISE, desk::compile);
        CHECK.due("line", 0, desk.line());
        CHECK.due("read", Check.IAE, desk::read);
        Check.line(desk, "R 0 1970 max Mar 1 0 1 S");
        Check.line(desk, "Z 1 0 A");
        desk.compile();
        desk.write('Z');
        ZoneDesk second = new ZoneDesk();
        CHECK.due("a second object", "0 0 0 0", second.rules(0) + " " + second.eras() + " " + second.bytes() + " " + second.line());
    }

    private static void calls() {
        CHECK.sentence("An object is used for at most 512 calls after it has been made");
        ZoneDesk desk = new ZoneDesk();
        for (int call = 1; call < 512 - 7; call++) {
            desk.write(' ');
        }
        CHECK.due("call 505", 0, desk.line());
        for (char c : "Z 1-".toCharArray()) {
            desk.write(c);
        }
        CHECK.due("call 510", Check.IAE, desk::line);
        CHECK.due("call 511", true, desk.write('Z'));
        CHECK.due("call 512", Check.IAE, desk::line);
    }

    private static void writeCharacters() {
        CHECK.sentence("Appends a character (32 .. 126) to the draft: true; false when .. it is none such.");
        for (int c = 0; c <= 65535; c++) {
            CHECK.due("write " + c, c >= 32 && c <= 126, new ZoneDesk().write((char) c));
        }
        for (char none : new char[] {0, 9, 10, 31, 127, 128, 160, 255, 256 + 'A', 65535}) {
            ZoneDesk desk = new ZoneDesk();
            Check.type(desk, "Z 1 - A");
            CHECK.due("write " + (int) none, false, desk.write(none));
            CHECK.due("the draft without it", 2, Check.line(desk, "B"));
            CHECK.due("the name without it", "AB", Check.name(desk, 0));
        }
        for (char c = 33; c <= 126; c++) {
            if (c != '-') {
                ZoneDesk desk = Check.desk("R 0 1970 max Jan 1 0 0 " + c, "Z 0 0 %s");
                CHECK.due("appended", (int) c, desk.letter(FAR, 0));
            }
        }
    }

    private static void writeSixty() {
        CHECK.sentence("false when there are 60");
        ZoneDesk desk = new ZoneDesk();
        for (int i = 0; i < 60; i++) {
            CHECK.due("the " + (i + 1) + "th", true, desk.write(i < 53 ? ' ' : "Z 1 - A".charAt(i - 53)));
        }
        CHECK.due("the 61st", false, desk.write('B'));
        CHECK.due("once more", false, desk.write('C'));
        CHECK.due("one that is none such", false, desk.write('\n'));
        CHECK.due("line", 2, desk.line());
        CHECK.due("the name", "A", Check.name(desk, 0));
        CHECK.due("there is room again", true, desk.write('B'));
    }

    private static void lineOfSixty() {
        CHECK.sentence("LINES have at most 60 characters (32 .. 126)");
        String rule = "R 0 1990 max Mar 1 0 1 XYZ";
        String sixty = " ".repeat(60 - rule.length()) + rule;
        CHECK.due("all sixty count", "XYZ", Check.name(Check.desk(sixty, "Z 0 0 %s"), FAR));
        CHECK.due("the 61st does not", "XY", Check.name(Check.desk(" " + sixty, "Z 0 0 %s"), FAR));
        line(1, "R 0  1970  2037  September  Wednesday>=31  24:59:59u  0  ABC");
        line(0, " ".repeat(60));
        line(Check.IAE, "x".repeat(60));
        line(Check.IAE, "a ".repeat(30));
    }

    private static void blanks() {
        CHECK.sentence("WORDS with one or more blanks between (also before and behind)");
        line(1, " R 0 1990 max Mar 1 0 1 S");
        line(1, "R 0 1990 max Mar 1 0 1 S ");
        line(1, "     R   0  1990 max Mar     1 0 1   S    ");
        line(2, "  Z  1   -    A  ");
        line(Check.IAE, "R0 1990 max Mar 1 0 1 S x");
        line(Check.IAE, "Z1 - A");
        line(Check.IAE, "Z 1 -A");
        CHECK.due("no blank gets into a name", "AB", Check.name(Check.desk("  Z  1   -    AB  "), 0));
    }

    private static void times() {
        CHECK.sentence("one or two digits h, perhaps : and two digits m, perhaps : again and two digits s (h at most 24, m and s at most 59)");
        String[] good = {"0", "00", "9", "09", "24", "0:00", "0:59", "24:59", "0:00:00", "0:00:59", "00:59:59", "24:59:59"};
        int[] seconds = {0, 0, 32400, 32400, 86400, 0, 3540, 89940, 0, 59, 3599, 89999};
        for (int i = 0; i < good.length; i++) {
            CHECK.due(good[i], seconds[i], Check.desk("Z " + good[i] + " - A").holds(0, 0));
            CHECK.due("-" + good[i], -seconds[i], Check.desk("Z -" + good[i] + " - A").holds(0, 0));
        }
        lines(Check.IAE, "Z ", " - A", "25", "99", "000", "024", "1:60", "1:99", "1:00:60", "1:59:99", "25:00", "1:0",
            "1:000", "1:00:0", "1:00:000", "1:00:00:00", "1:", "1:00:", ":00", "::", ":", "-", "--1", "+1", "1-", "1:-1",
            "-:00", "1;00", "1:00;00", "1.00", "a", "1a", "a1", "1:a0", "1:0a", "1:00:a0", "1:00:0a", "1/", "/1", "1:/0");
    }

    private static void timesWhereverTheyStand() {
        CHECK.sentence("OFF (a time) .. a CLOCK time, a SAVE time .. a time with : in it");
        ZoneDesk desk = Check.desk("R 0 1970 only Jan 1 24:59:59u 24:59:59 S", "Z 24:59:59 0 A");
        CHECK.due("the greatest clock time, before it", 89999, desk.holds(89998, 0));
        CHECK.due("the greatest clock time and save", 179998, desk.holds(89999, 0));
        CHECK.due("the smallest save", -179998,
            Check.desk("R 0 1970 only Jan 1 0u -24:59:59 S", "Z -24:59:59 0 A").holds(0, 0));
        CHECK.due("the greatest save of an era", 179998, Check.desk("Z 24:59:59 24:59:59 A").holds(0, 0));
        CHECK.due("the smallest save of an era", -179998, Check.desk("Z -24:59:59 -24:59:59 A").holds(0, 0));
        String[] bad = {"25", "1:60", "1:00:60", "001", "1:0", "x"};
        lines(Check.IAE, "R 0 1990 max Mar 1 ", " 0 S", bad);
        lines(Check.IAE, "R 0 1990 max Mar 1 0 ", " S", bad);
        lines(Check.IAE, "Z 0 - A 1990 Mar 1 ", "", bad);
        lines(Check.IAE, "Z 0 ", " A", "25:00", "1:60", "1:00:60", "001:00", "1:0", "x:00");
    }

    private static void months() {
        CHECK.sentence("A MONTH is a beginning of just one of January .. December (at least one letter; May itself counts as May)");
        String before = "R 0 1990 max ";
        lines(1, before, " 1 0 1 S", "Ja", "January", "F", "Fe", "February", "Mar", "March", "Ap", "April", "May", "Jun",
            "June", "Jul", "July", "Au", "August", "S", "September", "O", "October", "N", "November", "D", "December");
        lines(Check.IAE, before, " 1 0 1 S", "J", "Ju", "M", "Ma", "A", "Mai", "Mayo", "Marchs", "Januarys", "Julyy",
            "Septembe_", "SeptemberX", "Decemberr", "may", "mAY", "MAY", "mar", "MAr", "E", "ary", "1", "-", "B");
        ZoneDesk desk = Check.desk("Z 0 - A 2001 May", "Z 1 - B");
        CHECK.due("May itself, before it", 0, desk.holds(Check.at("2001-04-30T23:59:59"), 2));
        CHECK.due("May itself", 1, desk.holds(Check.at("2001-05-01T00:00:00"), 2));
        CHECK.due("the first month", 1, Check.desk("Z 0 - A 2001 Ja", "Z 1 - B").holds(Check.at("2001-01-01T00:00:00"), 2));
        desk = Check.desk("Z 0 - A 2001 D", "Z 1 - B");
        CHECK.due("the last month, before it", 0, desk.holds(Check.at("2001-11-30T23:59:59"), 2));
        CHECK.due("the last month", 1, desk.holds(Check.at("2001-12-01T00:00:00"), 2));
    }

    private static void dayNames() {
        CHECK.sentence("a DAY NAME a beginning of just one of Sunday .. Saturday (the first letter great, the others small, at least one letter)");
        String[] names = {"Sunday", "Monday", "Tuesday", "Wednesday", "Thursday", "Friday", "Saturday"};
        int[] shortest = {2, 1, 2, 1, 2, 1, 2};
        for (int day = 0; day < 7; day++) {
            for (int length = 1; length <= names[day].length(); length++) {
                String word = names[day].substring(0, length);
                Object due = length >= shortest[day] ? (Object) 1 : Check.IAE;
                line(due, "R 0 1990 max Mar last" + word + " 0 1 S");
                line(due, "R 0 1990 max Mar " + word + ">=1 0 1 S");
                line(due, "R 0 1990 max Mar " + word + "<=1 0 1 S");
            }
            // The first of April 2001 was a Sunday.
            ZoneDesk desk = Check.desk("Z 0 - A 2001 Ap " + names[day].substring(0, shortest[day]) + ">=1", "Z 1 - B");
            long due = Check.at("2001-04-01T00:00:00") + day * 86400L;
            CHECK.due(names[day] + ", before it", 0, desk.holds(due - 1, 2));
            CHECK.due(names[day], 1, desk.holds(due, 2));
        }
        lines(Check.IAE, "R 0 1990 max Mar ", " 0 1 S", "last", "lastsunday", "lastsU", "lastSUN", "lastSundays", "lastX",
            "lastSun_", "last1", ">=1", "<=1", "su>=1", "SU>=1", "Sundays>=1", "X<=1", "Sun_<=1");
    }

    private static void rulesHaveNineWords() {
        CHECK.sentence("A line with nine words, R first, is a RULE");
        line(Check.IAE, "R 0 1990 max Mar 1 0 1");
        line(1, "R 0 1990 max Mar 1 0 1 S");
        line(Check.IAE, "R 0 1990 max Mar 1 0 1 S S");
        line(Check.IAE, "Z 0 1990 max Mar 1 0 1 S");
        line(Check.IAE, "r 0 1990 max Mar 1 0 1 S");
        line(Check.IAE, "RR 0 1990 max Mar 1 0 1 S");
        line(Check.IAE, "0 1990 max Mar 1 0 1 S R");
        line(Check.IAE, "R R R R R R R R R");
    }

    private static void sets() {
        CHECK.sentence("the SET (0, 1 or 2)");
        for (int set = 0; set <= 2; set++) {
            ZoneDesk desk = Check.desk("R " + set + " 1990 max Mar 1 0 1 S");
            for (int other = 0; other <= 2; other++) {
                CHECK.due("rules of set " + other + " by a rule of " + set, other == set ? 1 : 0, desk.rules(other));
            }
        }
        lines(Check.IAE, "R ", " 1990 max Mar 1 0 1 S", "3", "9", "-1", "-", "00", "01", "12", "/", ":", "a");
    }

    private static void from() {
        CHECK.sentence("FROM (a year 1970 .. 2037, four digits)");
        lines(1, "R 0 ", " max Mar 1 0 1 S", "1970", "1971", "2036", "2037");
        lines(Check.IAE, "R 0 ", " max Mar 1 0 1 S", "1969", "2038", "0000", "9999", "197", "01970", "19700", "-1970",
            "-970", "197a", "a970", "max", "only", "197:", "197/");
    }

    private static void to() {
        CHECK.sentence("TO (such a year, not below FROM, or only: FROM, or max: 2037)");
        lines(1, "R 0 1990 ", " Mar 1 0 1 S", "1990", "1991", "2037", "only", "max");
        lines(Check.IAE, "R 0 1990 ", " Mar 1 0 1 S", "1989", "1970", "1969", "2038", "02000", "200", "Only", "onl",
            "onlyy", "Max", "ma", "maxx", "-", "200a");
        line(1, "R 0 1970 1970 Mar 1 0 1 S");
        line(Check.IAE, "R 0 2037 2038 Mar 1 0 1 S");
        line(Check.IAE, "R 0 1969 1970 Mar 1 0 1 S");
        long march = Check.at("2037-03-01T00:00:00");
        String back = "R 0 1991 max F 1 0u 0 -";
        ZoneDesk only = Check.desk("R 0 1990 only Mar 1 0u 1 S", back, "Z 0 0 A");
        CHECK.due("only: FROM itself", 1, only.holds(Check.at("1990-03-01T00:00:00"), 1));
        CHECK.due("only: not the year behind it", 0, only.holds(Check.at("1991-03-01T00:00:00"), 1));
        CHECK.due("only: not the last year", 0, only.holds(march, 1));
        ZoneDesk max = Check.desk("R 0 1990 max Mar 1 0u 1 S", back, "Z 0 0 A");
        CHECK.due("max: before that of 2037", 0, max.holds(march - 1, 1));
        CHECK.due("max: 2037", 1, max.holds(march, 1));
    }

    private static void dayNumbers() {
        CHECK.sentence("DAY: one or two digits 1 .. 31; last and a day name; a day name, >= or <=, and such digits.");
        for (String rule : new String[] {"R 0 1990 max Mar ", "R 0 1990 max Mar Sun>=", "R 0 1990 max Mar Sun<="}) {
            lines(1, rule, " 0 1 S", "1", "01", "9", "09", "10", "30", "31");
            lines(Check.IAE, rule, " 0 1 S", "0", "00", "32", "99", "001", "031", "-1", "1a", "a", "+1", "1:", "/1");
        }
        lines(Check.IAE, "R 0 1990 max Mar ", " 0 1 S", "Sun", "Sun>=", "Sun<=", "Sun>1", "Sun<1", "Sun=1", "Sun==1",
            "Sun=>1", "Sun=<1", "Sun>>=1", "Sun>=<=1", "Sun<>1", "last", "lastSun1", "lastSun>=1", "last>=1", "1Sun",
            "1>=Sun", "Last1", "1last", "firstSun", "=1", "=", ">=", "Sun-1");
    }

    private static void clocks() {
        CHECK.sentence("CLOCK: a time (from 0 on), perhaps with w, s, u, g or z behind.");
        for (String rule : new String[] {"R 0 1990 max Mar 1 ", "Z 0 - A 1990 Mar 1 "}) {
            int kind = rule.startsWith("R") ? 1 : 2;
            String behind = kind == 1 ? " 1 S" : "";
            lines(kind, rule, behind, "0", "0:00:01", "24:59:59", "2w", "2s", "2u", "2g", "2z", "2:30:15z");
            lines(Check.IAE, rule, behind, "-0:00:01", "-1", "-24:59:59", "-1u", "2W", "2S", "2U", "2x", "2ww", "2uu", "2us",
                "w", "z", "u2", "2 :00", "-", "2-", "2:u", "2:0u", "25u", "2t", "2v", "2r", "2y", "2h", "2f");
        }
    }

    private static void letters() {
        CHECK.sentence("LETTERS: one to three characters, or - for none.");
        String[] letters = {"A", "AB", "ABC", "-", "--", "-A", "A-", "%", "/", "0", "%s", "~!"};
        for (String word : letters) {
            ZoneDesk desk = Check.desk("R 0 1970 max Jan 1 0 0 " + word, "Z 0 0 <%s>");
            CHECK.due("letters " + word, word.equals("-") ? "<>" : "<" + word + ">", Check.name(desk, FAR));
        }
        lines(Check.IAE, "R 0 1990 max Mar 1 0 1 ", "", "ABCD", "----", "ABCDEFGH");
    }

    private static void erasHaveFourToEightWords() {
        CHECK.sentence("A line with four to eight words, Z first, is an ERA");
        line(Check.IAE, "Z");
        line(Check.IAE, "Z 1");
        line(Check.IAE, "Z 1 -");
        line(2, "Z 1 - A");
        line(2, "Z 1 - A 1990");
        line(2, "Z 1 - A 1990 Mar");
        line(2, "Z 1 - A 1990 Mar 1");
        line(2, "Z 1 - A 1990 Mar 1 0");
        line(Check.IAE, "Z 1 - A 1990 Mar 1 0 0");
        line(Check.IAE, "Z 1 - A 1990 Mar 1 0 0 0");
        line(Check.IAE, "R 1 - A");
        line(Check.IAE, "z 1 - A");
        line(Check.IAE, "ZZ 1 - A");
        line(Check.IAE, "1 - A Z");
    }

    private static void saves() {
        CHECK.sentence("what it SAVES (a digit 0 .. 2: by the rules of that set; -: nothing; or a time with : in it: that much)");
        String[] rules = {"R 0 1970 max Jan 1 0u 1 S", "R 1 1970 max Jan 1 0u 2 S", "R 2 1970 max Jan 1 0u 3 S"};
        String[] words = {"0", "1", "2", "-", "0:00", "1:00", "-1:00", "2:00:01", "24:59:59", "-0:00:01", "00:30"};
        int[] due = {3600, 7200, 10800, 0, 0, 3600, -3600, 7201, 89999, -1, 1800};
        for (int i = 0; i < words.length; i++) {
            ZoneDesk desk = Check.desk(rules[0], rules[1], rules[2], "Z 0 " + words[i] + " A");
            CHECK.due("saves " + words[i], due[i], desk.holds(FAR, 0));
        }
        lines(Check.IAE, "Z 0 ", " A", "3", "9", "-1", "-0", "00", "02", "10", "24", "--", "+", "a", ":", "1:", ":00", "-:", "/");
    }

    private static void formatLength() {
        CHECK.sentence("a FORMAT (one to eight characters)");
        lines(2, "Z 0 - ", "", "A", "AB", "ABCDEFG", "ABCDEFGH", "ABCD/EFG", "ABCDEF%s", "-", "0");
        lines(Check.IAE, "Z 0 - ", "", "ABCDEFGHI", "ABCD/EFGH", "ABCDEFG%s", "ABCDEFGHIJKLMNOP");
        line(Check.IAE, "Z 0 -  ");
    }

    private static void until(String words, String due) {
        ZoneDesk desk = Check.desk("Z 0 - A " + words, "Z 0 - B");
        CHECK.due("until " + words + ", before", 0, desk.holds(Check.at(due) - 1, 2));
        CHECK.due("until " + words, 1, desk.holds(Check.at(due), 2));
    }

    private static void untils() {
        CHECK.sentence("perhaps UNTIL: a year as above, perhaps a month, a day, a clock time (January, 1, 0 when they are not there)");
        until("1970", "1970-01-01T00:00:00");
        until("2037", "2037-01-01T00:00:00");
        until("2001 F", "2001-02-01T00:00:00");
        until("2001 F 3", "2001-02-03T00:00:00");
        until("2001 F lastTh", "2001-02-22T00:00:00");
        until("2001 F 3 4:05:06", "2001-02-03T04:05:06");
        until("2037 December 31 24:59:59", "2038-01-01T00:59:59");
        lines(Check.IAE, "Z 0 - A ", "", "1969", "2038", "199", "01990", "max", "only", "-", "1990 M", "1990 1", "1990 F 0",
            "1990 F 32", "1990 F 1 -1", "1990 F 1 25", "1990 F 1 x", "1990 1 F", "F", "1990 F last", "199a");
    }

    private static void formatKinds() {
        CHECK.sentence("A format has one / .. or one %s .. or is %z .. or has none of / and %.");
        lines(2, "Z 0 - ", "", "A/B", "/B", "A/", "/", "%s", "A%s", "%sA", "A%sB", "%ss", "%sz", "%z", "AB");
        lines(Check.IAE, "Z 0 - ", "", "A/B/C", "//", "/A/", "%s%s", "%sA%s", "%", "A%", "%A", "%S", "%Z", "%z%z", "A%z",
            "%zA", "%d", "s%", "z%", "%%s", "%s%");
    }

    private static void sixRules() {
        CHECK.sentence("A set has at most 6 rules; IllegalStateException when there are six rules in the set");
        for (int set = 0; set < 3; set++) {
            ZoneDesk desk = new ZoneDesk();
            String rule = "R " + set + " 1970 max Mar 1 0 1 S";
            for (int i = 1; i <= 6; i++) {
                CHECK.due("rule " + i, 1, Check.line(desk, rule));
                CHECK.due("rules", i, desk.rules(set));
            }
            CHECK.due("the seventh", Check.ISE, Check.line(desk, rule));
            CHECK.due("the seventh again", Check.ISE, Check.line(desk, rule));
            CHECK.due("six there are", 6, desk.rules(set));
            CHECK.due("there is room in another set", 1, Check.line(desk, "R " + (set + 1) % 3 + " 1970 max Mar 1 0 1 S"));
            CHECK.due("an era is none of them", 2, Check.line(desk, "Z 1 0 A"));
        }
    }

    private static void fourEras() {
        CHECK.sentence("there are at most 4 eras; IllegalStateException when there are .. four eras");
        ZoneDesk desk = new ZoneDesk();
        for (int i = 1; i <= 4; i++) {
            CHECK.due("era " + i, 2, Check.line(desk, "Z " + i + " - A " + (1980 + i)));
            CHECK.due("eras", i, desk.eras());
        }
        CHECK.due("the fifth", Check.ISE, Check.line(desk, "Z 5 - A 1990"));
        CHECK.due("a fifth without UNTIL", Check.ISE, Check.line(desk, "Z 5 - A"));
        CHECK.due("four there are", 4, desk.eras());
        CHECK.due("the fourth is the last one", 4 * 3600, desk.holds(FAR, 0));
        CHECK.due("a rule is none of them", 1, Check.line(desk, "R 0 1970 max Mar 1 0 1 S"));
    }

    private static void erasWithoutUntil() {
        CHECK.sentence("Every era but the last one must have an UNTIL; IllegalStateException when .. the era before has no UNTIL");
        for (int eras = 1; eras <= 3; eras++) {
            ZoneDesk desk = new ZoneDesk();
            for (int i = 1; i < eras; i++) {
                CHECK.due("era " + i, 2, Check.line(desk, "Z 1 - A 1990"));
            }
            CHECK.due("era " + eras, 2, Check.line(desk, "Z 2 - B"));
            CHECK.due("one with UNTIL behind it", Check.ISE, Check.line(desk, "Z 3 - C 2000"));
            CHECK.due("one without UNTIL behind it", Check.ISE, Check.line(desk, "Z 3 - C"));
            CHECK.due("eras", eras, desk.eras());
            CHECK.due("the last one stays", 7200, desk.holds(FAR, 0));
        }
    }

    private static void emptyThen() {
        CHECK.sentence("The draft, a line, is read (it is empty then, whatever comes)");
        ZoneDesk desk = Check.desk("Z 1 - A 1990");
        String[] texts = {"   ", "R 0 1970 max Mar 1 0 1 S", "x", "R 0 1970 max Mar 1 0 1", "Z 1 - A", "Z 1 - A"};
        Object[] due = {0, 1, Check.IAE, Check.IAE, 2, Check.ISE};
        for (int i = 0; i < texts.length; i++) {
            CHECK.due(texts[i], due[i], Check.line(desk, texts[i]));
            CHECK.due("the draft behind " + texts[i], 0, desk.line());
        }
        for (int i = 0; i < 5; i++) {
            Check.line(desk, "R 0 1970 max Mar 1 0 1 S");
        }
        CHECK.due("a seventh rule", Check.ISE, Check.line(desk, "R 0 1970 max Mar 1 0 1 S"));
        CHECK.due("the draft behind it", 0, desk.line());
    }

    private static void noWords() {
        CHECK.sentence("0 it has no words");
        line(0, "");
        line(0, " ");
        line(0, " ".repeat(59));
        line(Check.IAE, " ".repeat(59) + "x");
        line(Check.IAE, "-");
        ZoneDesk full = Check.desk("Z 1 - A");
        CHECK.due("also when no era can be added", 0, Check.line(full, "  "));
    }

    private static void noneOfThese() {
        CHECK.sentence("IllegalArgumentException when it is none of these");
        ZoneDesk desk = Check.desk("Z 1 - A 1990");
        for (String text : new String[] {"x", "R", "Z", "Z 1 - A 1890", "R 3 1970 max Mar 1 0 1 S", "2024-03-31T01:30:00+01:00"}) {
            CHECK.due(text, Check.IAE, Check.line(desk, text));
            CHECK.due("nothing is added", "0 0 0 1", desk.rules(0) + " " + desk.rules(1) + " " + desk.rules(2) + " " + desk.eras());
        }
    }

    private static void rulesOfNoSet() {
        CHECK.sentence("How many rules a set has; -1 when there is no such set.");
        ZoneDesk desk = Check.desk("R 0 1970 max Mar 1 0 1 S", "R 2 1970 max Mar 1 0 1 S", "R 2 1970 max Mar 1 0 1 S");
        int[] asked = {0, 1, 2, 3, -1, 4, Integer.MAX_VALUE, Integer.MIN_VALUE};
        int[] due = {1, 0, 2, -1, -1, -1, -1, -1};
        for (int i = 0; i < asked.length; i++) {
            CHECK.due("rules(" + asked[i] + ")", due[i], desk.rules(asked[i]));
        }
    }

    private static void clear() {
        CHECK.sentence("No rules, no eras, no image. (clear)");
        ZoneDesk desk = new ZoneDesk();
        String fresh = Check.told(desk, 0, FAR, Long.MAX_VALUE);
        desk.clear();
        CHECK.due("a new object", fresh, Check.told(desk, 0, FAR, Long.MAX_VALUE));
        for (int set = 0; set < 3; set++) {
            for (int i = 0; i < 6; i++) {
                Check.line(desk, "R " + set + " 1970 max Mar " + (i + 1) + " 0 1 S");
            }
        }
        for (int i = 0; i < 4; i++) {
            CHECK.due("era " + i, 2, Check.line(desk, "Z 1 " + i % 3 + " A" + (i < 3 ? " 198" + i : "")));
        }
        CHECK.due("compile", true, desk.compile() > 0);
        Check.type(desk, "Z 5 0");
        desk.clear();
        CHECK.due("a full object", fresh, Check.told(desk, 0, FAR, Long.MAX_VALUE));
        CHECK.due("the draft is none of them", 2, Check.line(desk, " B"));
        CHECK.due("no old rule holds", 18000, desk.holds(FAR, 0));
        desk.clear();
        for (int i = 0; i < 6; i++) {
            CHECK.due("there is room for six rules", 1, Check.line(desk, "R 0 1970 max Mar 1 0 0 S"));
        }
        for (int i = 0; i < 4; i++) {
            CHECK.due("there is room for four eras", 2, Check.line(desk, "Z 1 0 A 1990"));
        }
        desk.clear();
        String[] lines = {"R 0 1971 only Mar 1 0 1 S", "R 1 1970 1972 Mar 1 0 2 S", "R 2 1970 max Mar 1 0 -1 S",
            "R 2 1970 max O 1 0 0 D", "Z 1 0 A%s 1980", "Z 2 1 B%s 1990", "Z 3 2 C%s"};
        for (String text : lines) {
            Check.line(desk, text);
        }
        ZoneDesk other = Check.desk(lines);
        CHECK.due("compiles as a new object does", other.compile(), desk.compile());
        long[] times = {-1, 0, Check.at("1970-06-01T00:00:00"), Check.at("1985-06-01T00:00:00"), FAR};
        CHECK.due("answers as a new object does", Check.told(other, times), Check.told(desk, times));
    }
}
