/** Promises 6 and 7: what holds at an instant by the rules, and its name. */
public final class HoldsTest {
    private static final Check CHECK = new Check();

    public static void main(String[] args) {
        withoutEra();
        wrongWhat();
        clockBases();
        daysOfMonths();
        beforeTheFirst();
        alikeNominalTimes();
        overtakenFiring();
        rulesAddedLater();
        ownSaves();
        untilBases();
        untilBySaveOfNominal();
        untilsOutOfOrder();
        lastEraWithUntil();
        names();
        offsetNames();
        CHECK.finish();
    }

    private static void withoutEra() {
        ZoneDesk desk = Check.desk("R 0 1970 max Mar 1 0 1 S");
        for (int what = -1; what <= 3; what++) {
            int asked = what;
            CHECK.due("6: no era, what " + what, Check.ISE, () -> desk.holds(0, asked));
        }
        CHECK.due("7: no era", -1, desk.letter(0, 0));
        CHECK.due("7: no era", -1, desk.letter(Long.MAX_VALUE, -1));
    }

    private static void wrongWhat() {
        ZoneDesk desk = Check.desk("Z 1 - LMT");
        for (int what : new int[] {-1, 3, Integer.MIN_VALUE, Integer.MAX_VALUE}) {
            CHECK.due("6: what " + what, Check.IAE, () -> desk.holds(0, what));
        }
        CHECK.due("6: any long", 3600, desk.holds(Long.MIN_VALUE, 0));
        CHECK.due("6: any long", 3600, desk.holds(Long.MAX_VALUE, 0));
        for (int i : new int[] {-1, 3, 8, 9, Integer.MIN_VALUE, Integer.MAX_VALUE}) {
            CHECK.due("7: letter " + i, -1, desk.letter(0, i));
        }
        CHECK.due("7: letter 2", (int) 'T', desk.letter(0, 2));
    }

    private static void edge(String what, ZoneDesk desk, String utc, int before, int after) {
        long t = Check.at(utc);
        CHECK.due("6: " + what + ", a second before", before, desk.holds(t - 1, 0));
        CHECK.due("6: " + what, after, desk.holds(t, 0));
    }

    private static void clockBases() {
        String[] bases = {"", "w", "s", "u", "g", "z"};
        // The offset is 2 hours, and 1 hour is saved before the second firing.
        String[] due = {"2001-09-30T21:00:00", "2001-09-30T21:00:00", "2001-09-30T22:00:00",
            "2001-10-01T00:00:00", "2001-10-01T00:00:00", "2001-10-01T00:00:00"};
        for (int i = 0; i < bases.length; i++) {
            ZoneDesk desk = Check.desk("R 1 2001 only Mar 1 0 1 S", "R 1 2001 only Oct 1 0" + bases[i] + " 0 -", "Z 2 1 A");
            edge("base " + bases[i], desk, due[i], 10800, 7200);
        }
        ZoneDesk desk = Check.desk("R 1 2001 only Mar 1 0 1 S", "R 1 2001 only Oct 1 24:59:59u 0 -", "Z 2 1 A");
        edge("a clock time behind the day's end", desk, "2001-10-02T00:59:59", 10800, 7200);
    }

    private static void day(String month, String day, int year, String due) {
        ZoneDesk desk = Check.desk("R 0 " + year + " only " + month + " " + day + " 0 1 S", "Z 0 0 A");
        edge(month + " " + day + " of " + year, desk, due + "T00:00:00", 0, 3600);
    }

    private static void daysOfMonths() {
        day("Jun", "31", 2001, "2001-07-01");
        day("Feb", "29", 2001, "2001-03-01");
        day("Feb", "29", 2000, "2000-02-29");
        day("Feb", "31", 2001, "2001-03-03");
        day("Dec", "31", 2037, "2037-12-31");
        day("Mar", "lastSun", 2024, "2024-03-31");
        day("Feb", "lastThu", 2024, "2024-02-29");
        day("Feb", "lastThu", 2023, "2023-02-23");
        day("Apr", "Sun>=8", 1980, "1980-04-13");
        day("Apr", "Sun>=13", 1980, "1980-04-13");
        day("Apr", "Sun<=13", 1980, "1980-04-13");
        day("Apr", "Sun<=12", 1980, "1980-04-06");
        day("Apr", "Sun<=5", 1980, "1980-03-30");
        day("Jan", "Sun<=1", 1970, "1969-12-28");
        day("Dec", "Sun>=31", 2037, "2038-01-03");
        day("Feb", "Sun>=31", 2023, "2023-03-05");
        day("Feb", "Fri<=31", 2023, "2023-03-03");
    }

    private static void beforeTheFirst() {
        ZoneDesk desk = Check.desk("R 0 1980 1981 Mar 1 0 1 S", "Z 1 0 A%sB");
        edge("before the first firing no save holds", desk, "1980-02-29T23:00:00", 3600, 7200);
        edge("before the second one the first does", desk, "1981-02-28T22:00:00", 7200, 7200);
        CHECK.due("7: without a firing no letters", "AB", Check.name(desk, 0));
        CHECK.due("6: without a firing", 0, desk.holds(0, 1));
        CHECK.due("6: behind all", 1, desk.holds(Long.MAX_VALUE, 1));
        CHECK.due("6: a set without rules", 3600, Check.desk("R 0 1980 1981 Mar 1 0 1 S", "Z 1 2 A").holds(1000000000L, 0));
    }

    private static void alikeNominalTimes() {
        ZoneDesk desk = Check.desk("R 0 1980 only Mar 1 0 1 X", "R 0 1980 only Mar 1 0 2 Y", "Z 0 0 %s");
        // The second needs an hour less, for what the first saves holds before it.
        long t = Check.at("1980-03-01T00:00:00");
        CHECK.due("6: the one read last comes last", 7200, desk.holds(t, 0));
        CHECK.due("6: an hour sooner", 7200, desk.holds(t - 3600, 0));
        CHECK.due("6: before", 0, desk.holds(t - 3601, 0));
        desk = Check.desk("R 0 1980 only Mar 1 0 2 Y", "R 0 1980 only Mar 1 0 1 X", "Z 0 0 %s");
        CHECK.due("6: read the other way round", 3600, desk.holds(t, 0));
        CHECK.due("6: two hours sooner", 3600, desk.holds(t - 7200, 0));
        CHECK.due("6: before", 0, desk.holds(t - 7201, 0));
    }

    private static void overtakenFiring() {
        // The first fires by universal time at 10, the second, at 12 by a clock that is 5 hours ahead, at 7.
        ZoneDesk desk = Check.desk("R 0 1980 only Mar 1 10u 0 X", "R 0 1980 only Mar 1 12s 1 Y", "Z 5 0 %s");
        long day = Check.at("1980-03-01T00:00:00");
        CHECK.due("7: before both", "", Check.name(desk, day + 7 * 3600 - 1));
        CHECK.due("7: the later in order", "Y", Check.name(desk, day + 7 * 3600));
        CHECK.due("7: it stays when the other fires", "Y", Check.name(desk, day + 10 * 3600));
        CHECK.due("10: only one change", 1, desk.compile());
    }

    private static void rulesAddedLater() {
        ZoneDesk desk = Check.desk("R 0 1980 1982 Mar 1 0 1 S", "Z 0 0 A 1990", "Z 5 - B");
        long t = Check.at("1990-01-01T00:00:00");
        CHECK.due("6: an UNTIL under the save", 1, desk.holds(t - 3600, 2));
        CHECK.due("3: a rule behind the era", 1, Check.line(desk, "R 0 1981 only Oct 1 0 0 -"));
        CHECK.due("3: another one, between in order", 1, Check.line(desk, "R 0 1982 only Oct 1 0 0 -"));
        CHECK.due("6: the UNTIL is without save now", 0, desk.holds(t - 1, 2));
        CHECK.due("6: and at it the next era", 1, desk.holds(t, 2));
        CHECK.due("6: the new firing", 0, desk.holds(Check.at("1981-10-01T00:00:00"), 0));
        CHECK.due("6: the old one behind it", 3600, desk.holds(Check.at("1982-03-01T00:00:00"), 0));
    }

    private static void ownSaves() {
        ZoneDesk desk = Check.desk("R 0 1970 max Mar 1 0 2 S", "Z 1 1:30 A%sB 1980", "Z 1 -0:30 S/D 1990", "Z 1 0:00 S/D 2000", "Z 1 - S/D");
        CHECK.due("6: its own save", 9000, desk.holds(0, 0));
        CHECK.due("6: its own save", 1, desk.holds(0, 1));
        CHECK.due("7: no letters", "AB", Check.name(desk, 0));
        // Own saves count for UNTIL's instant.
        edge("an own save before UNTIL", desk, "1979-12-31T21:30:00", 9000, 1800);
        CHECK.due("7: a save below 0 is a save", "D", Check.name(desk, Check.at("1985-01-01T00:00:00")));
        CHECK.due("6: a save below 0 is a save", 1, desk.holds(Check.at("1985-01-01T00:00:00"), 1));
        edge("an own save below 0 before UNTIL", desk, "1989-12-31T23:30:00", 1800, 3600);
        CHECK.due("7: a save of 0", "S", Check.name(desk, Check.at("1995-01-01T00:00:00")));
        CHECK.due("6: a save of 0", 0, desk.holds(Check.at("1995-01-01T00:00:00"), 1));
        CHECK.due("6: era 2", 2, desk.holds(Check.at("1995-01-01T00:00:00"), 2));
        CHECK.due("6: era 3", 3, desk.holds(Long.MAX_VALUE, 2));
    }

    private static void untilBases() {
        String[] bases = {"", "w", "s", "u", "g", "z"};
        int[] hours = {-3, -3, -2, 0, 0, 0};
        for (int i = 0; i < bases.length; i++) {
            ZoneDesk desk = Check.desk("R 0 1980 only Mar 1 0 1 S", "Z 2 0 A 1985 Jun 15 12" + bases[i], "Z 0 - B");
            long t = Check.at("1985-06-15T12:00:00") + hours[i] * 3600L;
            CHECK.due("6: UNTIL with " + bases[i], 0, desk.holds(t - 1, 2));
            CHECK.due("6: UNTIL with " + bases[i], 1, desk.holds(t, 2));
        }
    }

    private static void untilBySaveOfNominal() {
        // The rule's nominal time is UNTIL's own: its save counts already.
        ZoneDesk desk = Check.desk("R 0 1980 only Mar 1 0 1 S", "Z 2 0 A 1980 Mar 1 0", "Z 0 - B");
        long t = Check.at("1980-03-01T00:00:00");
        CHECK.due("6: not above it", 0, desk.holds(t - 3 * 3600 - 1, 2));
        CHECK.due("6: not above it", 1, desk.holds(t - 3 * 3600, 2));
        desk = Check.desk("R 0 1980 only Mar 1 0:00:01 1 S", "Z 2 0 A 1980 Mar 1 0", "Z 0 - B");
        CHECK.due("6: above it", 0, desk.holds(t - 2 * 3600 - 1, 2));
        CHECK.due("6: above it", 1, desk.holds(t - 2 * 3600, 2));
        // By its nominal time the rule comes before UNTIL, by its instant behind it.
        desk = Check.desk("R 0 1980 only Feb 29 23u 1 S", "Z 2 0 A 1980 Mar 1 0", "Z 0 - B");
        CHECK.due("6: by nominal times", 0, desk.holds(t - 3 * 3600 - 1, 2));
        CHECK.due("6: by nominal times", 1, desk.holds(t - 3 * 3600, 2));
    }

    private static void untilsOutOfOrder() {
        ZoneDesk desk = Check.desk("Z 1 - A 1990", "Z 2 - B 1980", "Z 3 - C 1990 Jan 1 2", "Z 4 - D");
        CHECK.due("6: the first one whose UNTIL is above", 0, desk.holds(Check.at("1985-01-01T00:00:00"), 2));
        edge("the others have ended", desk, "1989-12-31T23:00:00", 3600, 14400);
    }

    private static void lastEraWithUntil() {
        ZoneDesk desk = Check.desk("Z 1 - A 1980", "Z 2 - B 1990");
        CHECK.due("6: behind all UNTILs the last one", 1, desk.holds(Long.MAX_VALUE, 2));
        CHECK.due("6: behind all UNTILs the last one", 7200, desk.holds(2000000000L, 0));
        CHECK.due("7: behind all UNTILs the last one", "B", Check.name(desk, 2000000000L));
    }

    private static void names() {
        long behind = 2000000000L;
        String rule = "R 0 1980 only Mar 1 0 1 XYZ";
        CHECK.due("7: letters", "AXYZB", Check.name(Check.desk(rule, "Z 0 0 A%sB"), behind));
        CHECK.due("7: eight characters", "ABCDEFXY", Check.name(Check.desk(rule, "Z 0 0 ABCDEF%s"), behind));
        CHECK.due("7: none is the ninth", -1, Check.desk(rule, "Z 0 0 ABCDEF%s").letter(behind, 8));
        CHECK.due("7: letters first", "XYZABCDE", Check.name(Check.desk(rule, "Z 0 0 %sABCDEF"), behind));
        CHECK.due("7: letters alone", "XYZ", Check.name(Check.desk(rule, "Z 0 0 %s"), behind));
        CHECK.due("7: no letters", "", Check.name(Check.desk(rule, "Z 0 0 %s"), 0));
        CHECK.due("7: none of / and %", "ABCDEFGH", Check.name(Check.desk(rule, "Z 0 0 ABCDEFGH"), behind));
        CHECK.due("7: behind /", "D", Check.name(Check.desk(rule, "Z 0 0 STD/D"), behind));
        CHECK.due("7: before /", "STD", Check.name(Check.desk(rule, "Z 0 0 STD/D"), 0));
        CHECK.due("7: nothing behind /", "", Check.name(Check.desk(rule, "Z 0 0 STD/"), behind));
        CHECK.due("7: nothing before /", "", Check.name(Check.desk(rule, "Z 0 0 /D"), 0));
        CHECK.due("7: letters that look like a format", "A%sB",
            Check.name(Check.desk("R 0 1980 only Mar 1 0 1 %s", "Z 0 0 A%sB"), behind));
    }

    private static void offsetNames() {
        String[][] all = {{"0", "+00"}, {"1", "+01"}, {"-1", "-01"}, {"-0:30", "-0030"}, {"5:45", "+0545"},
            {"24:59:59", "+2459"}, {"-24:59:59", "-2459"}, {"0:00:59", "+00"}, {"-0:00:59", "-00"}, {"-3:00:20", "-03"},
            {"12:05", "+1205"}};
        for (String[] one : all) {
            CHECK.due("7: %z of " + one[0], one[1], Check.name(Check.desk("Z " + one[0] + " - %z"), 0));
        }
        CHECK.due("7: %z with a save", "+4959", Check.name(Check.desk("Z 24:59:59 24:59:59 %z"), 0));
        CHECK.due("7: %z with a save that undoes it", "+00", Check.name(Check.desk("Z -1 1:00 %z"), 0));
    }
}
