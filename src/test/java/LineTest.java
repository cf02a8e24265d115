/** Promises 1 to 5 and 17: the draft, lines of rules and eras, how many there are, and clearing. */
public final class LineTest {
    private static final Check CHECK = new Check();

    public static void main(String[] args) {
        newObject();
        write();
        lineKinds();
        ruleWords();
        months();
        days();
        clocksAndTimes();
        eraWords();
        formats();
        fullSetsAndEras();
        clear();
        CHECK.finish();
    }

    private static void newObject() {
        ZoneDesk desk = new ZoneDesk();
        for (int set = 0; set < 3; set++) {
            CHECK.due("1: rules of a new object", 0, desk.rules(set));
        }
        CHECK.due("1: eras of a new object", 0, desk.eras());
        CHECK.due("1: bytes of a new object", 0, desk.bytes());
        CHECK.due("1: image of a new object", -1, desk.image(0));
        CHECK.due("1: draft of a new object", 0, desk.line());
        CHECK.due("1: objects are apart", "0/1", other());
    }

    private static String other() {
        ZoneDesk first = new ZoneDesk();
        ZoneDesk second = Check.desk("Z 0 - A");
        return first.eras() + "/" + second.eras();
    }

    private static void write() {
        ZoneDesk desk = new ZoneDesk();
        for (int c = 0; c < 300; c++) {
            CHECK.due("2: write " + c, c >= 32 && c <= 126, new ZoneDesk().write((char) c));
        }
        CHECK.due("2: write 65535", false, desk.write((char) 65535));
        CHECK.due("2: the first", true, desk.write(' '));
        for (int i = 1; i < 60; i++) {
            CHECK.due("2: blank " + i, true, desk.write(' '));
            CHECK.due("2: one that is none", false, desk.write('\n'));
        }
        CHECK.due("2: the 61st", false, desk.write(' '));
        CHECK.due("2: the 61st is not there", false, desk.write('Z'));
        CHECK.due("3: sixty blanks", 0, desk.line());
        CHECK.due("2: room again", true, desk.write('Z'));
    }

    private static void lineKinds() {
        line(0, "");
        line(0, "     ");
        line(1, "R 0 1990 max Mar lastSun 1u 1 S");
        line(1, "   R  0 1990   max Mar lastSun 1u 1 S    ");
        line(2, "  Z   1   0 X ");
        line(Check.IAE, "r 0 1990 max Mar lastSun 1u 1 S");
        line(Check.IAE, "RR 0 1990 max Mar lastSun 1u 1 S");
        line(Check.IAE, "R 0 1990 max Mar lastSun 1u 1");
        line(Check.IAE, "R 0 1990 max Mar lastSun 1u 1 S x");
        line(Check.IAE, "R 0 1990 max Mar lastSun 1u 1 S x y z");
        line(Check.IAE, "Z 0 1990 max Mar lastSun 1u 1 S");
        line(Check.IAE, "R 1 0 X");
        line(Check.IAE, "R");
        line(Check.IAE, "Z");
        line(Check.IAE, "Z 1 -");
        line(Check.IAE, "z 1 - X");
        line(Check.IAE, "Z 1 - X 1990 Jan 1 0 0");
        line(Check.IAE, "X 1 - X");
        line(Check.IAE, "a b c d e f g h i j k l m n o p q r s t u v w x y z A B C D");
        ZoneDesk desk = new ZoneDesk();
        CHECK.due("3: a bad line", Check.IAE, Check.line(desk, "nonsense"));
        CHECK.due("3: the draft is empty behind it", 0, desk.line());
        CHECK.due("3: a line behind it", 2, Check.line(desk, "Z 1 - X"));
        CHECK.due("3: the draft is empty behind an era", 0, desk.line());
        CHECK.due("3: refused", Check.ISE, Check.line(desk, "Z 1 - X"));
        CHECK.due("3: the draft is empty behind a refusal", 0, desk.line());
        CHECK.due("4: rules(-1)", -1, desk.rules(-1));
        CHECK.due("4: rules(3)", -1, desk.rules(3));
        CHECK.due("4: rules(min)", -1, desk.rules(Integer.MIN_VALUE));
        CHECK.due("4: rules(max)", -1, desk.rules(Integer.MAX_VALUE));
        CHECK.due("3: a rule of set 2", 1, Check.line(desk, "R 2 1990 max Mar lastSun 1u 1 S"));
        CHECK.due("4: rules(0)", 0, desk.rules(0));
        CHECK.due("4: rules(2)", 1, desk.rules(2));
        CHECK.due("5: eras", 1, desk.eras());
    }

    private static void ruleWords() {
        for (String set : new String[] {"0", "1", "2"}) {
            line(1, "R " + set + " 1990 max Mar 1 0 0 S");
        }
        for (String set : new String[] {"3", "00", "01", "-", "-1", "a", "9", "/"}) {
            line(Check.IAE, "R " + set + " 1990 max Mar 1 0 0 S");
        }
        for (String from : new String[] {"1970", "2037", "1999"}) {
            line(1, "R 0 " + from + " max Mar 1 0 0 S");
            line(1, "R 0 " + from + " only Mar 1 0 0 S");
            line(1, "R 0 " + from + " " + from + " Mar 1 0 0 S");
        }
        for (String from : new String[] {"1969", "2038", "199", "19990", "01999", "only", "max", "199x", "-999"}) {
            line(Check.IAE, "R 0 " + from + " max Mar 1 0 0 S");
        }
        for (String to : new String[] {"1989", "2038", "on", "onl", "Only", "ma", "maximum", "MAX", "90", "1990x"}) {
            line(Check.IAE, "R 0 1990 " + to + " Mar 1 0 0 S");
        }
        line(1, "R 0 1990 1990 Mar 1 0 0 S");
        line(1, "R 0 1990 2037 Mar 1 0 0 S");
        for (String letters : new String[] {"S", "SS", "SSS", "-", "--", "---", "%s", "/", "~"}) {
            line(1, "R 0 1990 max Mar 1 0 0 " + letters);
        }
        line(Check.IAE, "R 0 1990 max Mar 1 0 0 SSSS");
    }

    private static void months() {
        String[] names = {"January", "February", "March", "April", "May", "June", "July", "August",
            "September", "October", "November", "December"};
        for (int month = 1; month <= 12; month++) {
            String name = names[month - 1];
            for (int length = 1; length <= name.length(); length++) {
                String begin = name.substring(0, length);
                int those = 0;
                for (String other : names) {
                    those += other.startsWith(begin) ? 1 : 0;
                }
                line(those == 1 ? (Object) 1 : Check.IAE, "R 0 1990 max " + begin + " 1 0 0 S");
                if (those == 1) {
                    ZoneDesk desk = Check.desk("Z 0 - A 2001 " + begin, "Z 1 - B");
                    long change = Check.at(String.format("2001-%02d-01T00:00:00", month));
                    CHECK.due("3: " + begin + ", before", 0, desk.holds(change - 1, 2));
                    CHECK.due("3: " + begin, 1, desk.holds(change, 2));
                }
            }
            line(Check.IAE, "R 0 1990 max " + name + "s 1 0 0 S");
            line(Check.IAE, "R 0 1990 max " + name.toLowerCase() + " 1 0 0 S");
            line(Check.IAE, "R 0 1990 max " + name.toUpperCase() + " 1 0 0 S");
        }
        line(Check.IAE, "R 0 1990 max 3 1 0 0 S");
        line(Check.IAE, "R 0 1990 max Foo 1 0 0 S");
        line(Check.IAE, "R 0 1990 max SeptemberOctober 1 0 0 S");
    }

    private static void days() {
        String[] good = {"1", "01", "9", "31", "lastSu", "lastSunday", "lastM", "lastTh", "lastF", "lastW",
            "Sun>=1", "Su>=31", "Saturday<=01", "M<=31", "W>=09"};
        String[] bad = {"0", "00", "32", "001", "x", "last", "lastS", "lastT", "lastSun1", "lastsun", "LastSun",
            "lastSundays", "Sun>=0", "Sun>=32", "Sun<=00", "Sun>=", "Sun>=001", ">=1", "<=1", "S>=1", "T<=1",
            "Sun=>1", "Sun>1", "Sun<1", "Sun==1", "Sun=1", "=1", "=", ">=", "Sun>=>=1", "Sun>=1x", "Sun>=-1",
            "lastSun>=1", "sun>=1", "Sun", "-1", "1.", "Sun>==1", "Sun<>1", "Sun>=1<=2"};
        for (String day : good) {
            line(1, "R 0 1990 max Mar " + day + " 0 0 S");
            line(2, "Z 0 - A 1990 Mar " + day);
        }
        for (String day : bad) {
            line(Check.IAE, "R 0 1990 max Mar " + day + " 0 0 S");
            line(Check.IAE, "Z 0 - A 1990 Mar " + day);
        }
    }

    private static void clocksAndTimes() {
        String[] times = {"0", "00", "1", "24", "0:00", "24:59", "24:59:59", "1:02:03", "01:02:03", "9:59"};
        String[] bad = {"", "25", "001", "1:5", "1:60", "1:00:60", "1:00:0", "1:", ":30", "1:00:", "1:00:00:00",
            "1::00", "x", "1x", "1.5", "--1", "+1", "1:-5", "1:0a", "12345", "1:000", "1:00 :00", "-"};
        for (String time : times) {
            for (String behind : new String[] {"", "w", "s", "u", "g", "z"}) {
                line(1, "R 0 1990 max Mar 1 " + time + behind + " 0 S");
                line(2, "Z 0 - A 1990 Mar 1 " + time + behind);
            }
            for (String behind : new String[] {"W", "x", "ww", "uz", "-", "S"}) {
                line(Check.IAE, "R 0 1990 max Mar 1 " + time + behind + " 0 S");
            }
            line(1, "R 0 1990 max Mar 1 0 " + time + " S");
            line(1, "R 0 1990 max Mar 1 0 -" + time + " S");
            line(Check.IAE, "R 0 1990 max Mar 1 0 " + time + "w S");
            line(2, "Z " + time + " - A");
            line(2, "Z -" + time + " - A");
            line(Check.IAE, "Z " + time + "s - A");
        }
        for (String time : bad) {
            if (!time.isEmpty()) {
                line(Check.IAE, "R 0 1990 max Mar 1 " + time + " 0 S");
                line(Check.IAE, "R 0 1990 max Mar 1 0 " + time + " S");
                line(Check.IAE, "Z " + time + " - A");
            }
            line(Check.IAE, "R 0 1990 max Mar 1 " + time + "w 0 S");
        }
        line(Check.IAE, "R 0 1990 max Mar 1 -1 0 S");
        line(Check.IAE, "R 0 1990 max Mar 1 -0:00:01u 0 S");
        line(1, "R 0 1990 max Mar 1 -0 0 S");
        ZoneDesk desk = Check.desk("Z -1:02:03 - A");
        CHECK.due("3: a time below 0", -3723, desk.holds(0, 0));
        CHECK.due("3: a time of hours", 24 * 3600, Check.desk("Z 24 - A").holds(0, 0));
    }

    private static void eraWords() {
        for (String saves : new String[] {"0", "1", "2", "-", "1:00", "-1:00", "0:00", "24:59:59", "01:30"}) {
            line(2, "Z 1 " + saves + " A");
        }
        for (String saves : new String[] {"3", "00", "01", "10", "-1", "--", "1:0", "25:00", "x", "0:60", ":", "-:00"}) {
            line(Check.IAE, "Z 1 " + saves + " A");
        }
        line(2, "Z 1 - A 1970");
        line(2, "Z 1 - A 2037 D Sun>=31 24:59:59z");
        for (String until : new String[] {"1969", "2038", "max", "only", "199", "1990 M", "1990 May 0", "1990 May 1 x",
            "May", "1990 May 1 0 0"}) {
            line(Check.IAE, "Z 1 - A " + until);
        }
        ZoneDesk desk = Check.desk("Z 0 - A 1999", "Z 0 - B 2001 F", "Z 0 - C 2002 Ap lastW", "Z 0 - D");
        CHECK.due("3: until January, 1, 0", 0, desk.holds(Check.at("1998-12-31T23:59:59"), 2));
        CHECK.due("3: until January, 1, 0", 1, desk.holds(Check.at("1999-01-01T00:00:00"), 2));
        CHECK.due("3: until the 1st, 0", 1, desk.holds(Check.at("2001-01-31T23:59:59"), 2));
        CHECK.due("3: until the 1st, 0", 2, desk.holds(Check.at("2001-02-01T00:00:00"), 2));
        CHECK.due("3: until 0", 2, desk.holds(Check.at("2002-04-23T23:59:59"), 2));
        CHECK.due("3: until 0", 3, desk.holds(Check.at("2002-04-24T00:00:00"), 2));
    }

    private static void formats() {
        String[] good = {"A", "ABCDEFGH", "-", "A/B", "/", "/B", "A/", "ABC/DEFG", "%s", "A%s", "%sB", "A%sB",
            "ABCDEF%s", "%z", "%ss", "%sz", "!~"};
        String[] bad = {"ABCDEFGHI", "A/B/C", "//", "%", "A%", "%S", "%Z", "%x", "%zA", "A%z", "%s%s", "%s%z",
            "%%s", "%s%", "A/%s", "%s/B", "%z/A", "A/B%", "ABCDEFG%s"};
        for (String format : good) {
            line(2, "Z 1 - " + format);
        }
        for (String format : bad) {
            line(Check.IAE, "Z 1 - " + format);
        }
    }

    private static void fullSetsAndEras() {
        ZoneDesk desk = new ZoneDesk();
        for (int i = 0; i < 6; i++) {
            CHECK.due("3: rule " + i, 1, Check.line(desk, "R 1 1970 max Mar 1 0 0 S"));
        }
        CHECK.due("3: the seventh", Check.ISE, Check.line(desk, "R 1 1970 max Mar 1 0 0 S"));
        CHECK.due("3: a bad seventh", Check.IAE, Check.line(desk, "R 1 1970 max Mar 1 0 0 SSSS"));
        CHECK.due("4: six", 6, desk.rules(1));
        CHECK.due("3: another set", 1, Check.line(desk, "R 2 1970 max Mar 1 0 0 S"));
        for (int i = 0; i < 4; i++) {
            CHECK.due("3: era " + i, 2, Check.line(desk, "Z 1 - A 1990"));
            CHECK.due("5: eras", i + 1, desk.eras());
        }
        CHECK.due("3: the fifth", Check.ISE, Check.line(desk, "Z 1 - A 1990"));
        CHECK.due("3: a bad fifth", Check.IAE, Check.line(desk, "Z 1 3 A 1990"));
        CHECK.due("5: four", 4, desk.eras());
        desk = Check.desk("Z 1 - A 1990", "Z 2 - B");
        CHECK.due("3: behind one without UNTIL", Check.ISE, Check.line(desk, "Z 1 - A 1990"));
        CHECK.due("3: a bad one behind one without UNTIL", Check.IAE, Check.line(desk, "Z 1 - A 1890"));
        CHECK.due("5: two", 2, desk.eras());
        CHECK.due("6: it stays", 7200, desk.holds(2000000000L, 0));
    }

    private static void clear() {
        ZoneDesk desk = Check.desk("R 0 1970 max Mar 1 0 1 S", "R 2 1970 max Mar 1 0 1 S", "Z 1 0 A");
        desk.compile();
        Check.type(desk, "Z 5 0");
        desk.clear();
        CHECK.due("17: rules(0)", 0, desk.rules(0));
        CHECK.due("17: rules(2)", 0, desk.rules(2));
        CHECK.due("17: eras", 0, desk.eras());
        CHECK.due("17: bytes", 0, desk.bytes());
        CHECK.due("17: image", -1, desk.image(0));
        CHECK.due("17: look", Check.ISE, () -> desk.look(0, 0));
        CHECK.due("17: holds", Check.ISE, () -> desk.holds(0, 0));
        CHECK.due("17: the draft stays", 2, Check.line(desk, " B"));
        CHECK.due("17: no old firings", 18000, desk.holds(2000000000L, 0));
        CHECK.due("17: compiles anew", 0, desk.compile());
        CHECK.due("17: rules can be added anew", 1, Check.line(desk, "R 0 1971 only Mar 1 0 1 S"));
        CHECK.due("17: and hold", 21600, desk.holds(2000000000L, 0));
    }

    private static void line(Object want, String text) {
        CHECK.due("3: line " + text, want, Check.line(new ZoneDesk(), text));
    }
}
