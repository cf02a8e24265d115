/** Promises 6 to 9: a test for each sentence about what holds and what is shown that names an edge. */
public final class HoldEdgesTest {
    private static final Check CHECK = new Check();
    private static final long FAR = 3000000000L;
    private static final long TEN_TO_15 = 1000000000000000L;

    public static void main(String[] args) {
        neighbouringMonths();
        weekdaysFromAndUpTo();
        lastWeekdays();
        eachYear();
        order();
        before();
        instantsOfFirings();
        notAbove();
        withoutAFiring();
        otherwise();
        untilBySave();
        untilByOwnSave();
        untilByBase();
        eraOfAnInstant();
        saveIsNot0();
        eightCharacters();
        slash();
        letters();
        offsetName();
        holdsWithoutEra();
        holdsWhat();
        anyInstant();
        letterWithoutEra();
        noLetter();
        shownWithoutEra();
        shownBeyond();
        shownInGapsAndTwice();
        kthInOrder();
        noSuchInstant();
        CHECK.finish();
    }

    private static void edge(String what, ZoneDesk desk, long at, int before, int from) {
        CHECK.due(what + ", one second before", before, desk.holds(at - 1, 0));
        CHECK.due(what, from, desk.holds(at, 0));
    }

    private static void day(int year, String month, String day, String due) {
        ZoneDesk desk = Check.desk("R 0 " + year + " only " + month + " " + day + " 0 1 S", "Z 0 0 A");
        edge(month + " " + day + " of " + year, desk, Check.at(due + "T00:00:00"), 0, 3600);
        ZoneDesk until = Check.desk("Z 0 - A " + year + " " + month + " " + day, "Z 1 - B");
        edge("until " + month + " " + day + " of " + year, until, Check.at(due + "T00:00:00"), 0, 3600);
    }

    private static void neighbouringMonths() {
        CHECK.sentence("It may lie in a neighbouring month (the 31st of June is the first of July).");
        day(2001, "Jun", "30", "2001-06-30");
        day(2001, "Jun", "31", "2001-07-01");
        day(2001, "F", "28", "2001-02-28");
        day(2001, "F", "29", "2001-03-01");
        day(2001, "F", "31", "2001-03-03");
        day(2000, "F", "29", "2000-02-29");
        day(2000, "F", "31", "2000-03-02");
        day(2001, "Jan", "Su<=1", "2000-12-31");
        day(2001, "Jan", "Tu<=1", "2000-12-26");
        day(2001, "D", "M>=31", "2001-12-31");
        day(2001, "D", "Su>=31", "2002-01-06");
        day(1970, "Jan", "F<=1", "1969-12-26");
        day(2037, "D", "W>=31", "2038-01-06");
        day(2001, "F", "Sa>=31", "2001-03-03");
        day(2001, "F", "F>=31", "2001-03-09");
        day(2001, "F", "Su<=31", "2001-02-25");
        day(2001, "F", "F<=31", "2001-03-02");
    }

    private static void weekdaysFromAndUpTo() {
        CHECK.sentence("the first from the number on, or the latest up to it, that is such a weekday");
        String[] names = {"Su", "M", "Tu", "W", "Th", "F", "Sa"};
        for (int weekday = 0; weekday < 7; weekday++) {
            // The 13th of April 1980 was a Sunday.
            day(1980, "Ap", names[weekday] + ">=13", "1980-04-" + (13 + weekday));
            day(1980, "Ap", names[weekday] + "<=13", "1980-04-" + (weekday == 0 ? "13" : String.format("%02d", 6 + weekday)));
        }
        day(1980, "Ap", "Su>=12", "1980-04-13");
        day(1980, "Ap", "Su>=14", "1980-04-20");
        day(1980, "Ap", "Su<=12", "1980-04-06");
        day(1980, "Ap", "Su<=14", "1980-04-13");
    }

    private static void lastWeekdays() {
        CHECK.sentence("the last .. that is such a weekday");
        day(2024, "Mar", "lastSu", "2024-03-31");
        day(2024, "Mar", "lastM", "2024-03-25");
        day(2024, "F", "lastTh", "2024-02-29");
        day(2024, "F", "lastF", "2024-02-23");
        day(2023, "F", "lastTu", "2023-02-28");
        day(2023, "F", "lastW", "2023-02-22");
        day(2024, "Ap", "lastTu", "2024-04-30");
        day(2024, "Ap", "lastW", "2024-04-24");
        day(2037, "D", "lastTh", "2037-12-31");
        String[] last = {"31", "29", "31", "30", "31", "30", "31", "31", "30", "31", "30", "31"};
        String[] months = {"Ja", "F", "Mar", "Ap", "May", "Jun", "Jul", "Au", "S", "O", "N", "D"};
        String[] names = {"M", "Tu", "W", "Th", "F", "Sa", "Su"};
        for (int month = 1; month <= 12; month++) {
            String due = String.format("2004-%02d-%s", month, last[month - 1]);
            day(2004, months[month - 1], "last" + names[java.time.LocalDate.parse(due).getDayOfWeek().getValue() - 1], due);
        }
    }

    private static void eachYear() {
        CHECK.sentence("FIRINGS of a set: each rule for each year FROM .. TO.");
        ZoneDesk desk = Check.desk("R 0 1980 1982 Mar 1 0u 1 S", "R 0 1970 max O 1 0u 0 -", "Z 0 0 A");
        for (int year = 1970; year <= 2037; year++) {
            int due = year >= 1980 && year <= 1982 ? 3600 : 0;
            edge("March of " + year, desk, Check.at(year + "-03-01T00:00:00"), 0, due);
            edge("October of " + year, desk, Check.at(year + "-10-01T00:00:00"), due, 0);
        }
        desk = Check.desk("R 0 1970 max Mar 1 0u 1 S", "R 0 1970 max O 1 0u 0 -", "Z 0 0 A");
        edge("the year before the first", desk, Check.at("1969-03-01T00:00:00"), 0, 0);
        edge("the first year", desk, Check.at("1970-03-01T00:00:00"), 0, 3600);
        edge("the last year", desk, Check.at("2037-03-01T00:00:00"), 0, 3600);
        edge("the year behind the last", desk, Check.at("2038-03-01T00:00:00"), 0, 0);
    }

    private static void order() {
        CHECK.sentence("They are in ORDER by nominal times, those alike by rules as they were read.");
        long t = Check.at("1980-03-01T00:00:00");
        String x = "R 0 1980 only Mar 1 0u 1 X";
        String y = "R 0 1980 only Mar 1 0u 2 Y";
        CHECK.due("alike", "Y", Check.name(Check.desk(x, y, "Z 0 0 %s"), t));
        CHECK.due("alike, read the other way", "X", Check.name(Check.desk(y, x, "Z 0 0 %s"), t));
        String[] six = new String[7];
        for (int i = 0; i < 6; i++) {
            six[i] = "R 0 1980 only Mar 1 0u 1 " + i;
        }
        six[6] = "Z 0 0 %s";
        CHECK.due("six alike", "5", Check.name(Check.desk(six), t));
        String sooner = "R 0 1980 only F 29 23:59:59u 3 Z";
        CHECK.due("one second sooner, read last", "Y", Check.name(Check.desk(x, y, sooner, "Z 0 0 %s"), t));
        CHECK.due("at its second", "Z", Check.name(Check.desk(x, y, sooner, "Z 0 0 %s"), t - 1));
        String later = "R 0 1980 only Mar 1 0:00:01u 3 Z";
        CHECK.due("one second later, read first", "Z", Check.name(Check.desk(later, x, y, "Z 0 0 %s"), t + 1));
        CHECK.due("before its second", "Y", Check.name(Check.desk(later, x, y, "Z 0 0 %s"), t));
        CHECK.due("another set is of no account", "X", Check.name(Check.desk(x, "R 1 1980 only Mar 1 0u 2 Y", "Z 0 0 %s"), t));
        CHECK.due("24 hours of a day are 0 hours of the next", "X",
            Check.name(Check.desk("R 0 1980 only F 29 24u 2 Y", x, "Z 0 0 %s"), t));
    }

    private static void before() {
        CHECK.sentence("BEFORE a firing holds the save of the firing before it in order (0 before the first one).");
        ZoneDesk desk = Check.desk("R 0 1980 only Mar 1 12 1 A", "R 0 1980 only Ap 1 12 2 B", "R 0 1980 only May 1 12 -3 C",
            "R 0 1980 only Jun 1 12 0 D", "Z 0 0 %s");
        edge("the first one", desk, Check.at("1980-03-01T12:00:00"), 0, 3600);
        edge("the second", desk, Check.at("1980-04-01T11:00:00"), 3600, 7200);
        edge("the third", desk, Check.at("1980-05-01T10:00:00"), 7200, -10800);
        edge("the fourth", desk, Check.at("1980-06-01T15:00:00"), -10800, 0);
        desk = Check.desk("R 0 1980 1981 Mar 1 12 1 A", "R 0 1981 only F 1 12 2 B", "Z 0 0 %s");
        edge("a firing of the year before", desk, Check.at("1981-02-01T11:00:00"), 3600, 7200);
        edge("a firing of the same year", desk, Check.at("1981-03-01T10:00:00"), 7200, 3600);
        ZoneDesk alike = Check.desk("R 0 1980 only Mar 1 12 1 A", "R 0 1980 only Mar 1 12 2 B", "Z 0 0 %s");
        edge("the first of those alike holds before the second", alike, Check.at("1980-03-01T11:00:00"), 0, 7200);
    }

    private static void instantsOfFirings() {
        CHECK.sentence("less OFF and what holds before it, for w (or nothing behind the clock time); less OFF for s; and the nominal time itself for u, g and z");
        String[] behind = {"", "w", "s", "u", "g", "z"};
        int[] less = {9000, 9000, 5400, 0, 0, 0};
        int[] lessBelow = {-1800, -1800, -5400, 0, 0, 0};
        for (int i = 0; i < behind.length; i++) {
            String rule = "R 0 1980 only Ap 1 12" + behind[i] + " 2 B";
            ZoneDesk desk = Check.desk("R 0 1980 only Mar 1 12 1 A", rule, "Z 1:30 0 %s");
            edge("12" + behind[i], desk, Check.at("1980-04-01T12:00:00") - less[i], 9000, 12600);
            desk = Check.desk("R 0 1980 only Mar 1 12 1 A", rule, "Z -1:30 0 %s");
            edge("12" + behind[i] + ", OFF below 0", desk, Check.at("1980-04-01T12:00:00") - lessBelow[i], -1800, 1800);
        }
        ZoneDesk most = Check.desk("R 0 1980 only Mar 1 12 24:59:59 A", "R 0 1980 only Ap 1 0 1 B", "Z 24:59:59 0 %s");
        edge("the most that can be less", most, Check.at("1980-04-01T00:00:00") - 179998, 179998, 93599);
        ZoneDesk least = Check.desk("R 0 1980 only Mar 1 12 -24:59:59 A", "R 0 1980 only Ap 1 0 1 B", "Z -24:59:59 0 %s");
        edge("the least", least, Check.at("1980-04-01T00:00:00") + 179998, -179998, -86399);
    }

    private static void notAbove() {
        CHECK.sentence("the save and the letters are those of the last firing in order whose instant is not above t");
        long t = Check.at("1980-03-01T00:00:00");
        ZoneDesk desk = Check.desk("R 0 1980 only Mar 1 0u 1 X", "Z 0 0 %s");
        CHECK.due("below", "", Check.name(desk, t - 1));
        CHECK.due("the same", "X", Check.name(desk, t));
        // Y is later in order, but sooner by its instant: X never comes.
        desk = Check.desk("R 0 1980 only Mar 1 10u 1 X", "R 0 1980 only Mar 1 12s 2 Y", "Z 5 0 %s");
        CHECK.due("before both", "", Check.name(desk, t + 7 * 3600 - 1));
        CHECK.due("the last in order", "Y", Check.name(desk, t + 7 * 3600));
        CHECK.due("it stays", "Y", Check.name(desk, t + 10 * 3600));
        // The two furthest from one another: Y fires up to 49:59:58 sooner, X at its nominal time.
        desk = Check.desk("R 0 1980 only F 28 0u 24:59:59 X", "R 0 1980 only F 29 24:59:59 2 Y", "Z 24:59:59 0 %s");
        long y = Check.at("1980-03-01T00:59:59") - 179998;
        CHECK.due("Y's instant is the sooner", true, y < Check.at("1980-02-28T00:00:00"));
        CHECK.due("one second before Y", "", Check.name(desk, y - 1));
        CHECK.due("Y", "Y", Check.name(desk, y));
        CHECK.due("Y stays at X", "Y", Check.name(desk, Check.at("1980-02-28T00:00:00")));
    }

    private static void withoutAFiring() {
        CHECK.sentence("without such a one the save is 0, with no letters");
        ZoneDesk desk = Check.desk("R 0 2037 only D 31 24:59:59u 1 S", "Z 1 0 A%sB 1980", "Z 2 1 C%sD");
        for (long t : new long[] {Long.MIN_VALUE, -1, 0, Check.at("1979-12-31T22:59:59")}) {
            CHECK.due("before all firings", "3600 0 AB", desk.holds(t, 0) + " " + desk.holds(t, 1) + " " + Check.name(desk, t));
        }
        for (long t : new long[] {Check.at("1979-12-31T23:00:00"), FAR, Long.MAX_VALUE}) {
            CHECK.due("a set without rules", "7200 0 CD", desk.holds(t, 0) + " " + desk.holds(t, 1) + " " + Check.name(desk, t));
        }
    }

    private static void otherwise() {
        CHECK.sentence("Otherwise the save is what the era says, with no letters.");
        String rule = "R 0 1970 max Jan 1 0u 5 XYZ";
        String[] saves = {"-", "0:00", "1:00", "-0:00:01"};
        int[] due = {0, 0, 3600, -1};
        for (int i = 0; i < saves.length; i++) {
            ZoneDesk desk = Check.desk(rule, "Z 0 " + saves[i] + " A%sB");
            for (long t : new long[] {Long.MIN_VALUE, 0, FAR, Long.MAX_VALUE}) {
                CHECK.due("offset with " + saves[i], due[i], desk.holds(t, 0));
                CHECK.due("save with " + saves[i], due[i] != 0 ? 1 : 0, desk.holds(t, 1));
                CHECK.due("name with " + saves[i], "AB", Check.name(desk, t));
            }
        }
    }

    private static void untilAt(String what, long due, String... lines) {
        ZoneDesk desk = Check.desk(lines);
        CHECK.due(what + ", one second before", 0, desk.holds(due - 1, 2));
        CHECK.due(what, 1, desk.holds(due, 2));
    }

    private static void untilBySave() {
        CHECK.sentence("UNTIL's instant: its nominal time, less OFF, less the save of the last firing in order whose nominal time is not above it");
        long t = Check.at("1980-03-01T12:00:00");
        String era = "Z 2 0 A 1980 Mar 1 12";
        untilAt("no rules", t - 7200, era, "Z 0 - B");
        untilAt("a firing one second above it", t - 7200, "R 0 1980 only Mar 1 12:00:01 1 S", era, "Z 0 - B");
        untilAt("a firing at it", t - 10800, "R 0 1980 only Mar 1 12 1 S", era, "Z 0 - B");
        untilAt("a firing at it by u", t - 10800, "R 0 1980 only Mar 1 12u 1 S", era, "Z 0 - B");
        untilAt("a firing long before it", t - 10800, "R 0 1970 only Jan 1 0 1 S", era, "Z 0 - B");
        untilAt("the last of two alike", t - 14400, "R 0 1980 only Mar 1 12 1 S", "R 0 1980 only Mar 1 12 2 D", era, "Z 0 - B");
        untilAt("the last of two", t - 3600, "R 0 1980 only F 1 12 -1 D", "R 0 1979 only F 1 12 1 S", era, "Z 0 - B");
        untilAt("of the era's own set", t - 10800, "R 0 1970 only Jan 1 0 1 S", "R 1 1971 only Jan 1 0 2 S", era, "Z 0 1 B");
        untilAt("a rule that is read behind the eras", t - 10800, era, "Z 0 - B", "R 0 1970 only Jan 1 0 1 S");
        untilAt("the most", Check.at("1970-01-01T00:00:00") - 179998, "R 0 1970 only Jan 1 0 24:59:59 S", "Z 24:59:59 0 A 1970", "Z 0 - B");
        untilAt("the least", Check.at("1970-01-01T00:00:00") + 179998, "R 0 1970 only Jan 1 0 -24:59:59 S", "Z -24:59:59 0 A 1970", "Z 0 - B");
    }

    private static void untilByOwnSave() {
        CHECK.sentence("(of the era's own set; or the era's own save)");
        long t = Check.at("1980-03-01T12:00:00");
        String rule = "R 0 1970 max Jan 1 0 5 S";
        untilAt("-", t - 7200, rule, "Z 2 - A 1980 Mar 1 12", "Z 0 0 B");
        untilAt("0:00", t - 7200, rule, "Z 2 0:00 A 1980 Mar 1 12", "Z 0 0 B");
        untilAt("1:00", t - 10800, rule, "Z 2 1:00 A 1980 Mar 1 12w", "Z 0 0 B");
        untilAt("-1:00", t - 3600, rule, "Z 2 -1:00 A 1980 Mar 1 12", "Z 0 0 B");
    }

    private static void untilByBase() {
        CHECK.sentence("for w; for s and u likewise as above");
        String[] behind = {"", "w", "s", "u", "g", "z"};
        int[] less = {10800, 10800, 7200, 0, 0, 0};
        for (int i = 0; i < behind.length; i++) {
            long due = Check.at("1980-03-01T12:00:00") - less[i];
            String until = " A 1980 Mar 1 12" + behind[i];
            untilAt("an own save, 12" + behind[i], due, "Z 2 1:00" + until, "Z 0 - B");
            untilAt("a set, 12" + behind[i], due, "R 0 1980 only F 1 0 1 S", "Z 2 0" + until, "Z 0 - B");
        }
    }

    private static void eraOfAnInstant() {
        CHECK.sentence("The era of an instant is the first one whose UNTIL's instant is above it, or the last one.");
        long a = Check.at("1980-01-01T00:00:00");
        long b = Check.at("1990-01-01T00:00:00");
        ZoneDesk desk = Check.desk("Z 0 - A 1980", "Z 0 - B 1990", "Z 0 - C");
        long[] at = {Long.MIN_VALUE, a - 1, a, b - 1, b, Long.MAX_VALUE};
        int[] due = {0, 0, 1, 1, 2, 2};
        for (int i = 0; i < at.length; i++) {
            CHECK.due("era at " + at[i], due[i], desk.holds(at[i], 2));
        }
        desk = Check.desk("Z 0 - A 1990", "Z 0 - B 1980", "Z 0 - C 1990", "Z 0 - D");
        CHECK.due("UNTILs out of order, before", 0, desk.holds(b - 1, 2));
        CHECK.due("UNTILs out of order", 3, desk.holds(b, 2));
        desk = Check.desk("Z 0 - A 1980", "Z 0 - B 1990");
        CHECK.due("a last one with UNTIL, before it", 1, desk.holds(b - 1, 2));
        CHECK.due("a last one with UNTIL, at it", 1, desk.holds(b, 2));
        CHECK.due("a last one with UNTIL, far behind it", 1, desk.holds(Long.MAX_VALUE, 2));
        CHECK.due("one alone with UNTIL", 0, Check.desk("Z 0 - A 1980").holds(Long.MAX_VALUE, 2));
        CHECK.due("one alone", 0, Check.desk("Z 0 - A").holds(Long.MIN_VALUE, 2));
        desk = Check.desk("Z 0 - A 1970", "Z 0 - B 1980", "Z 0 - C 1990", "Z 0 - D 2000");
        CHECK.due("four, before the last one's UNTIL", 3, desk.holds(b, 2));
        CHECK.due("four, the third", 2, desk.holds(b - 1, 2));
    }

    private static void saveIsNot0() {
        CHECK.sentence("AT an instant hold: the OFFSET, OFF and the save; whether the save is not 0");
        CHECK.due("a save of 0, OFF is not", 0, Check.desk("Z 1 - A").holds(0, 1));
        CHECK.due("a save of a second", 1, Check.desk("Z 0 0:00:01 A").holds(0, 1));
        CHECK.due("a save below 0", 1, Check.desk("Z 0 -0:00:01 A").holds(0, 1));
        CHECK.due("-0:00 is 0", 0, Check.desk("Z 0 -0:00 A").holds(0, 1));
        CHECK.due("an offset of 0 by a save", 1, Check.desk("Z 1 -1:00 A").holds(0, 1));
        CHECK.due("an offset of 0 by a save", 0, Check.desk("Z 1 -1:00 A").holds(0, 0));
        ZoneDesk desk = Check.desk("R 0 1970 only Jan 1 0u 0 X", "Z 1 0 A%s");
        CHECK.due("a rule that saves 0", 0, desk.holds(FAR, 1));
        CHECK.due("its letters", "AX", Check.name(desk, FAR));
    }

    private static void eightCharacters() {
        CHECK.sentence("the NAME: the format with what it stands for, at most eight characters of it");
        String rule = "R 0 1970 only Jan 1 0u 1 XYZ";
        String[] formats = {"ABC%s", "ABCDE%s", "ABCDEF%s", "%sABCDE", "%sABCDEF", "AB%sCDEF", "A%sBCDEF", "ABCDEFGH"};
        String[] due = {"ABCXYZ", "ABCDEXYZ", "ABCDEFXY", "XYZABCDE", "XYZABCDE", "ABXYZCDE", "AXYZBCDE", "ABCDEFGH"};
        for (int i = 0; i < formats.length; i++) {
            ZoneDesk desk = Check.desk(rule, "Z 0 0 " + formats[i]);
            CHECK.due(formats[i], due[i], Check.name(desk, FAR));
            CHECK.due(formats[i] + ", the ninth", -1, desk.letter(FAR, 8));
        }
    }

    private static void slash() {
        CHECK.sentence("one / (the part before stands for a save of 0, that behind for others)");
        String[] formats = {"A/B", "/B", "A/", "/", "ABCDEFG/", "/ABCDEFG"};
        String[] before = {"A", "", "A", "", "ABCDEFG", ""};
        String[] behind = {"B", "B", "", "", "", "ABCDEFG"};
        for (int i = 0; i < formats.length; i++) {
            CHECK.due(formats[i] + ", a save of 0", before[i], Check.name(Check.desk("Z 1 - " + formats[i]), 0));
            CHECK.due(formats[i] + ", a save", behind[i], Check.name(Check.desk("Z 1 0:00:01 " + formats[i]), 0));
            CHECK.due(formats[i] + ", a save below 0", behind[i], Check.name(Check.desk("Z 1 -1:00 " + formats[i]), 0));
        }
    }

    private static void letters() {
        CHECK.sentence("one %s (for which the letters stand)");
        String[] words = {"-", "X", "XYZ", "%s", "/"};
        String[] due = {"", "X", "XYZ", "%s", "/"};
        for (int i = 0; i < words.length; i++) {
            String rule = "R 0 1970 only Jan 1 0u 0 " + words[i];
            CHECK.due("%s with " + words[i], due[i], Check.name(Check.desk(rule, "Z 0 0 %s"), FAR));
            CHECK.due("A%s with " + words[i], "A" + due[i], Check.name(Check.desk(rule, "Z 0 0 A%s"), FAR));
            CHECK.due("%sB with " + words[i], due[i] + "B", Check.name(Check.desk(rule, "Z 0 0 %sB"), FAR));
            CHECK.due("%ss with " + words[i], due[i] + "s", Check.name(Check.desk(rule, "Z 0 0 %ss"), FAR));
        }
    }

    private static void offsetName() {
        CHECK.sentence("+ or, when it is below 0, -, two digits of its hours, and, when they are not both 0, two of its minutes");
        String[] offs = {"0", "0:00:01", "-0:00:01", "0:01", "-0:01", "0:10", "0:59:59", "9", "10", "-9:59", "24:59:59", "-24:59:59", "1:00:59"};
        String[] due = {"+00", "+00", "-00", "+0001", "-0001", "+0010", "+0059", "+09", "+10", "-0959", "+2459", "-2459", "+01"};
        for (int i = 0; i < offs.length; i++) {
            CHECK.due("%z of " + offs[i], due[i], Check.name(Check.desk("Z " + offs[i] + " - %z"), 0));
        }
        CHECK.due("with the save", "+4959", Check.name(Check.desk("Z 24:59:59 24:59:59 %z"), 0));
        CHECK.due("with the save", "-4959", Check.name(Check.desk("Z -24:59:59 -24:59:59 %z"), 0));
        CHECK.due("with the save", "+00", Check.name(Check.desk("Z -1 1:00 %z"), 0));
        CHECK.due("with the save", "-00", Check.name(Check.desk("Z -1 0:59:59 %z"), 0));
    }

    private static void holdsWithoutEra() {
        CHECK.sentence("IllegalStateException when there is no era (holds)");
        ZoneDesk desk = Check.desk("R 0 1970 max Jan 1 0u 1 S");
        for (int what = 0; what <= 2; what++) {
            int asked = what;
            CHECK.due("what " + what, Check.ISE, () -> desk.holds(0, asked));
        }
        CHECK.due("also when what is wrong", Check.ISE, () -> desk.holds(0, 3));
        CHECK.due("also when what is wrong", Check.ISE, () -> desk.holds(0, -1));
    }

    private static void holdsWhat() {
        CHECK.sentence("IllegalArgumentException when what is not 0 .. 2");
        ZoneDesk desk = Check.desk("Z 1 1:00 A");
        CHECK.due("0, 1 and 2", "7200 1 0", desk.holds(0, 0) + " " + desk.holds(0, 1) + " " + desk.holds(0, 2));
        for (int what : new int[] {-1, 3, 4, 256, Integer.MIN_VALUE, Integer.MAX_VALUE}) {
            CHECK.due("what " + what, Check.IAE, () -> desk.holds(0, what));
        }
    }

    private static void anyInstant() {
        CHECK.sentence("INSTANTS are seconds (longs) from the beginning of 1970 on");
        ZoneDesk desk = Check.desk("R 0 1970 max Jan 1 0 1 X", "R 0 1970 max Jul 1 0 2 Y", "Z 24:59:59 0 %s 1990", "Z -24:59:59 0 %s");
        for (long t : new long[] {Long.MIN_VALUE, Long.MIN_VALUE + 1, Long.MIN_VALUE + 179998}) {
            CHECK.due("the smallest", "89999 0 0 ", desk.holds(t, 0) + " " + desk.holds(t, 1) + " " + desk.holds(t, 2) + " " + Check.name(desk, t));
        }
        for (long t : new long[] {Long.MAX_VALUE, Long.MAX_VALUE - 1, Long.MAX_VALUE - 179998}) {
            CHECK.due("the greatest", "-82799 1 1 Y", desk.holds(t, 0) + " " + desk.holds(t, 1) + " " + desk.holds(t, 2) + " " + Check.name(desk, t));
        }
    }

    private static void letterWithoutEra() {
        CHECK.sentence("-1 when there is none, or no era (letter)");
        ZoneDesk desk = Check.desk("R 0 1970 max Jan 1 0u 1 S");
        for (int i : new int[] {-1, 0, 1, 8}) {
            CHECK.due("no era, " + i, -1, desk.letter(0, i));
        }
        desk = Check.desk("Z 1 - ABC");
        desk.letter(0, 0);
        desk.clear();
        CHECK.due("no era any more", -1, desk.letter(0, 0));
    }

    private static void noLetter() {
        CHECK.sentence("The code of character i of the name at an instant; -1 when there is none");
        ZoneDesk desk = Check.desk("Z 1 - ABC 1980", "Z 1 - ABCDEFGH 1990", "Z 1 - /B");
        int[] asked = {-1, 0, 2, 3, 7, 8, 9, Integer.MAX_VALUE, Integer.MIN_VALUE};
        int[] three = {-1, 'A', 'C', -1, -1, -1, -1, -1, -1};
        int[] eight = {-1, 'A', 'C', 'D', 'H', -1, -1, -1, -1};
        for (int i = 0; i < asked.length; i++) {
            CHECK.due("a name of eight, " + asked[i], eight[i], desk.letter(Check.at("1985-01-01T00:00:00"), asked[i]));
            CHECK.due("a name of three, " + asked[i], three[i], desk.letter(0, asked[i]));
            CHECK.due("an empty name, " + asked[i], -1, desk.letter(FAR, asked[i]));
        }
        // A save that is not 0 and an offset of many bytes must not be taken for characters before the name.
        ZoneDesk saving = Check.desk("Z -24:59:59 -24:59:59 ABC");
        for (int i = -20; i <= 20; i++) {
            CHECK.due("with a save, " + i, i < 0 || i > 2 ? -1 : 'A' + i, saving.letter(0, i));
        }
    }

    private static void shownWithoutEra() {
        CHECK.sentence("0 when there is no era (shown)");
        ZoneDesk desk = Check.desk("R 0 1970 max Jan 1 0u 1 S");
        CHECK.due("no era", 0, desk.shown(0));
        CHECK.due("no era, instant", Check.NSE, Check.kth(desk, 0, 0));
        Check.line(desk, "Z 1 0 A");
        CHECK.due("an era", 1, desk.shown(0));
        desk.clear();
        CHECK.due("no era any more", 0, desk.shown(0));
        CHECK.due("no era any more, instant", Check.NSE, Check.kth(desk, 0, 0));
    }

    private static void shownBeyond() {
        CHECK.sentence("0 when .. local is below -10^15 or above 10^15");
        for (String off : new String[] {"1", "-1", "0", "24:59:59", "-24:59:59"}) {
            ZoneDesk desk = Check.desk("R 0 1970 max Jan 1 0u 1 S", "Z " + off + " - A 1990", "Z " + off + " 0 A");
            int first = desk.holds(Long.MIN_VALUE, 0);
            int last = desk.holds(Long.MAX_VALUE, 0);
            CHECK.due("-10^15", 1, desk.shown(-TEN_TO_15));
            CHECK.due("its instant", -TEN_TO_15 - first, Check.kth(desk, -TEN_TO_15, 0));
            CHECK.due("10^15", 1, desk.shown(TEN_TO_15));
            CHECK.due("its instant", TEN_TO_15 - last, Check.kth(desk, TEN_TO_15, 0));
            for (long local : new long[] {-TEN_TO_15 - 1, TEN_TO_15 + 1, Long.MIN_VALUE, Long.MAX_VALUE,
                Long.MIN_VALUE + 89999, Long.MAX_VALUE - 89999}) {
                CHECK.due("shown " + local, 0, desk.shown(local));
                CHECK.due("instant " + local, Check.NSE, Check.kth(desk, local, 0));
            }
        }
    }

    private static void shown(ZoneDesk desk, long local, long... due) {
        CHECK.due("shown " + local, due.length, desk.shown(local));
        for (int k = 0; k < due.length; k++) {
            CHECK.due("instant " + k + " of " + local, due[k], Check.kth(desk, local, k));
        }
        CHECK.due("one more of " + local, Check.NSE, Check.kth(desk, local, due.length));
    }

    private static void shownInGapsAndTwice() {
        CHECK.sentence("How many instants show a local time by the rules, that is: with the offset that holds at them added are it");
        ZoneDesk desk = Check.desk("R 0 2001 only Mar 1 2 1 S", "R 0 2001 only O 1 2 0 -", "Z 0 0 A");
        long gap = Check.at("2001-03-01T02:00:00");
        shown(desk, gap - 1, gap - 1);
        shown(desk, gap);
        shown(desk, gap + 3599);
        shown(desk, gap + 3600, gap);
        long twice = Check.at("2001-10-01T01:00:00");
        shown(desk, twice - 1, twice - 3601);
        shown(desk, twice, twice - 3600, twice);
        shown(desk, twice + 3599, twice - 1, twice + 3599);
        shown(desk, twice + 3600, twice + 3600);
        // Another save makes the same offset: one instant, not two.
        desk = Check.desk("R 0 2001 only Mar 1 2 1 S", "Z 0 0 A 2001 Mar 1 2u", "Z 1 - B");
        shown(desk, gap);
        shown(desk, gap + 3600, gap);
        desk = Check.desk("Z 1 - A 1990", "Z 0 1:00 B");
        shown(desk, 631152000L, 631148400L);
    }

    private static void kthInOrder() {
        CHECK.sentence("The k-th (from 0, in order) instant that shows a local time.");
        // The clock goes back an hour every hour, by two sets of six rules and two ends of eras.
        ZoneDesk desk = new ZoneDesk();
        for (int hour = 1; hour <= 13; hour++) {
            if (hour != 7) {
                String save = hour < 7 ? "-" + hour : "-" + (hour - 7);
                CHECK.due("rule", 1, Check.line(desk, "R " + hour / 7 + " 2001 only D 1 " + hour + "u " + save + " A"));
            }
        }
        for (String era : new String[] {"Z 0 0 A 2001 D 1 7u", "Z -7 1 A 2001 D 1 14u", "Z -14 - A"}) {
            CHECK.due("era", 2, Check.line(desk, era));
        }
        long day = Check.at("2001-12-01T00:00:00");
        long[] due = new long[15];
        for (int k = 0; k < due.length; k++) {
            due[k] = day + k * 3600L;
        }
        shown(desk, day, due);
        for (int k = 0; k < due.length; k++) {
            due[k] += 3599;
        }
        shown(desk, day + 3599, due);
        shown(desk, day - 1, day - 1);
        shown(desk, day + 3600, day + 15 * 3600L);
        // The offsets are tried as the eras stand, not as the instants do.
        desk = Check.desk("Z -1 - A 1970", "Z -2 - B");
        shown(desk, -1, 3599, 7199);
        shown(desk, -3600, 0, 3600);
        shown(desk, 0, 7200);
        desk = Check.desk("R 0 1971 only Jan 1 0u 0 -", "R 0 1970 only Jan 1 0u 1 S", "Z 0 0 A");
        shown(desk, 31536000L, 31532400L, 31536000L);
    }

    private static void noSuchInstant() {
        CHECK.sentence("NoSuchElementException when there is none (see shown).");
        ZoneDesk desk = Check.desk("Z 1 - A");
        CHECK.due("k = 0", -3600L, Check.kth(desk, 0, 0));
        for (int k : new int[] {-1, 1, 2, 27, 28, 29, Integer.MIN_VALUE, Integer.MAX_VALUE}) {
            CHECK.due("k = " + k, Check.NSE, Check.kth(desk, 0, k));
        }
        for (int k : new int[] {-1, 0, 1}) {
            CHECK.due("no era, k = " + k, Check.NSE, Check.kth(new ZoneDesk(), 0, k));
            CHECK.due("beyond, k = " + k, Check.NSE, Check.kth(desk, TEN_TO_15 + 1, k));
        }
    }
}
