/** Promises 14 to 16: a test for each sentence about dates and weekdays that names an edge. */
public final class DateEdgesTest {
    private static final Check CHECK = new Check();
    private static final long YEAR_0 = -62167219200L;
    private static final long YEAR_10000 = 253402300800L;

    public static void main(String[] args) {
        gregorian();
        years();
        yearsByTheLocalTime();
        noCharacter();
        withoutEra();
        minutesCut();
        localTimeNotCut();
        byTheOffsetThatHolds();
        justThisForm();
        yearsRead();
        monthsAndDaysRead();
        timesRead();
        offsetsRead();
        lessTheOffset();
        emptyThen();
        weekdays();
        weekdayOfAnyLong();
        CHECK.finish();
    }

    private static void gregorian() {
        CHECK.sentence("DATES are of the Gregorian calendar, also before it was");
        String[] days = {"0000-02-29", "0000-03-01", "0004-02-29", "0100-02-28", "0400-02-29", "1500-03-01", "1582-10-04", "1582-10-05",
            "1582-10-14", "1582-10-15", "1600-02-29", "1700-02-28", "1900-02-28", "1900-03-01", "1969-12-31", "1972-02-29",
            "2000-02-29", "2000-12-31", "2001-01-01", "2100-02-28", "2100-03-01", "2400-02-29", "9996-02-29", "9999-02-28"};
        ZoneDesk desk = new ZoneDesk();
        for (String day : days) {
            long first = Check.at(day + "T00:00:00");
            CHECK.due("date " + first, day + "T00:00:00+00:00", Check.date(desk, first));
            CHECK.due("date " + first + " and a day less a second", day + "T23:59:59+00:00", Check.date(desk, first + 86399));
            CHECK.due("read " + day, first, Check.read(desk, day + "T00:00:00+00:00"));
        }
        for (int year : new int[] {0, 1900, 2000, 2023, 2024, 9999}) {
            java.time.LocalDate first = java.time.LocalDate.of(year, 1, 1);
            for (int day = 0; day < first.lengthOfYear(); day++) {
                long second = first.plusDays(day).toEpochDay() * 86400L;
                CHECK.due("date " + second, first.plusDays(day) + "T00:00:00+00:00", Check.date(desk, second));
            }
        }
        CHECK.due("no leap day in 1500", Check.IAE, Check.read(desk, "1500-02-29T00:00:00+00:00"));
        CHECK.due("the day behind the 28th of February 1500", "1500-03-01T00:00:00+00:00",
            Check.date(desk, Check.at("1500-02-28T00:00:00") + 86400));
    }

    private static void years() {
        CHECK.sentence("years 0 .. 9999; -1 when .. the year is not 0 .. 9999");
        ZoneDesk desk = new ZoneDesk();
        CHECK.due("the first second", "0000-01-01T00:00:00+00:00", Check.date(desk, YEAR_0));
        CHECK.due("the last second", "9999-12-31T23:59:59+00:00", Check.date(desk, YEAR_10000 - 1));
        for (int i = 0; i <= 25; i++) {
            CHECK.due("one second sooner, character " + i, -1, desk.date(YEAR_0 - 1, i));
            CHECK.due("one second later, character " + i, -1, desk.date(YEAR_10000, i));
        }
        for (long t : new long[] {Long.MIN_VALUE, Long.MAX_VALUE, Long.MIN_VALUE + 89999, Long.MAX_VALUE - 89999,
            -1000000000000001L, -1000000000000000L, 1000000000000000L, 1000000000000001L}) {
            for (String off : new String[] {"0", "24:59:59", "-24:59:59"}) {
                CHECK.due("date " + t + " with " + off, -1, Check.desk("Z " + off + " - A").date(t, 0));
            }
        }
    }

    private static void yearsByTheLocalTime() {
        CHECK.sentence("the local date and time of an instant .. the year is not 0 .. 9999");
        String[] offs = {"1", "-1", "24:59:59", "-24:59:59"};
        int[] seconds = {3600, -3600, 89999, -89999};
        String[] behind = {"+01:00", "-01:00", "+24:59", "-24:59"};
        for (int i = 0; i < offs.length; i++) {
            ZoneDesk desk = Check.desk("Z " + offs[i] + " - A");
            CHECK.due("the first with " + offs[i], "0000-01-01T00:00:00" + behind[i], Check.date(desk, YEAR_0 - seconds[i]));
            CHECK.due("before it", -1, desk.date(YEAR_0 - seconds[i] - 1, 0));
            CHECK.due("the last with " + offs[i], "9999-12-31T23:59:59" + behind[i], Check.date(desk, YEAR_10000 - seconds[i] - 1));
            CHECK.due("behind it", -1, desk.date(YEAR_10000 - seconds[i], 0));
        }
    }

    private static void noCharacter() {
        CHECK.sentence("The code of character i of the date of an instant; -1 when there is none");
        ZoneDesk desk = new ZoneDesk();
        CHECK.due("the first", (int) '1', desk.date(0, 0));
        CHECK.due("the last", (int) '9', Check.desk("Z 0:09 - A").date(0, 24));
        for (int i : new int[] {-1, 25, 26, Integer.MIN_VALUE, Integer.MAX_VALUE}) {
            CHECK.due("character " + i, -1, desk.date(0, i));
        }
        String due = "2024-03-31T01:30:00+00:00";
        for (int i = 0; i < due.length(); i++) {
            CHECK.due("character " + i, (int) due.charAt(i), desk.date(Check.at("2024-03-31T01:30:00"), i));
        }
    }

    private static void withoutEra() {
        CHECK.sentence("written with the offset that holds at it by the rules (0 without an era)");
        ZoneDesk desk = Check.desk("R 0 1970 max Jan 1 0u 1 S");
        CHECK.due("rules alone", "1970-01-01T00:00:00+00:00", Check.date(desk, 0));
        Check.line(desk, "Z 1 0 A");
        CHECK.due("an era", "1970-01-01T02:00:00+02:00", Check.date(desk, 0));
        desk.compile();
        desk.clear();
        CHECK.due("no era any more", "1970-01-01T00:00:00+00:00", Check.date(desk, 0));
    }

    private static void offset(String off, String due) {
        CHECK.due("offset " + off, due, Check.date(Check.desk("Z " + off + " A"), 0).substring(19));
    }

    private static void minutesCut() {
        CHECK.sentence("its minutes cut towards 0, then + or, when they are below 0, -, hours and minutes");
        offset("0 -", "+00:00");
        offset("0:00:01 -", "+00:00");
        offset("0:00:59 -", "+00:00");
        offset("0:01 -", "+00:01");
        offset("0:01:59 -", "+00:01");
        offset("-0:00:01 -", "+00:00");
        offset("-0:00:59 -", "+00:00");
        offset("-0:01 -", "-00:01");
        offset("-0:01:59 -", "-00:01");
        offset("-0:02 -", "-00:02");
        offset("0:59:59 -", "+00:59");
        offset("-0:59:59 -", "-00:59");
        offset("1 -", "+01:00");
        offset("-1 -", "-01:00");
        offset("24:59:59 -", "+24:59");
        offset("-24:59:59 -", "-24:59");
        offset("24:59:59 24:59:59", "+49:59");
        offset("-24:59:59 -24:59:59", "-49:59");
        offset("-1 1:00", "+00:00");
        offset("1 -1:00:59", "+00:00");
    }

    private static void localTimeNotCut() {
        CHECK.sentence("the local time itself is not cut");
        String[] offs = {"0:00:01 -", "0:00:59 -", "-0:00:01 -", "-0:00:59 -", "1:02:03 -", "24:59:59 24:59:59", "-24:59:59 -24:59:59"};
        String[] due = {"1970-01-01T00:00:01", "1970-01-01T00:00:59", "1969-12-31T23:59:59", "1969-12-31T23:59:01",
            "1970-01-01T01:02:03", "1970-01-03T01:59:58", "1969-12-29T22:00:02"};
        for (int i = 0; i < offs.length; i++) {
            CHECK.due("offset " + offs[i], due[i], Check.date(Check.desk("Z " + offs[i] + " A"), 0).substring(0, 19));
        }
    }

    private static void byTheOffsetThatHolds() {
        CHECK.sentence("the date of an instant, written with the offset that holds at it by the rules");
        ZoneDesk desk = Check.desk("R 0 2024 only Mar lastSun 1u 1 S", "Z 1 0 A");
        desk.compile();
        long t = Check.at("2024-03-31T01:00:00");
        CHECK.due("one second before", "2024-03-31T01:59:59+01:00", Check.date(desk, t - 1));
        CHECK.due("at it", "2024-03-31T03:00:00+02:00", Check.date(desk, t));
        Check.line(desk, "R 0 2024 only Mar lastSun 1u 2 S");
        CHECK.due("by the rules, not by the image", "2024-03-31T04:00:00+03:00", Check.date(desk, t));
    }

    private static void read(Object due, String text) {
        CHECK.due("read " + text, due, Check.read(new ZoneDesk(), text));
    }

    private static void justThisForm() {
        CHECK.sentence("A date that is read has just this form");
        String good = "2024-03-31T01:30:00+01:00";
        read(1711845000L, good);
        read(Check.IAE, "");
        read(Check.IAE, " ");
        read(Check.IAE, good + " ");
        read(Check.IAE, " " + good);
        read(Check.IAE, good + "0");
        read(Check.IAE, "0" + good);
        read(Check.IAE, good.substring(1));
        read(Check.IAE, good.substring(0, 24));
        read(Check.IAE, good.substring(0, 19));
        read(Check.IAE, good.substring(0, 19) + "Z");
        read(Check.IAE, good + good);
        read(Check.IAE, " ".repeat(60));
        for (int i = 0; i < good.length(); i++) {
            for (char c = 32; c <= 126; c++) {
                boolean digit = c >= '0' && c <= '9';
                boolean fits = "0123456789".indexOf(good.charAt(i)) >= 0 ? digit : c == good.charAt(i) || i == 19 && c == '-';
                if (!fits) {
                    read(Check.IAE, good.substring(0, i) + c + good.substring(i + 1));
                }
            }
        }
    }

    private static void yearsRead() {
        CHECK.sentence("a year 0 .. 9999");
        read(YEAR_0, "0000-01-01T00:00:00+00:00");
        read(YEAR_10000 - 1, "9999-12-31T23:59:59+00:00");
        read(Check.IAE, "10000-01-01T00:00:00+00:00");
        read(Check.IAE, "-001-01-01T00:00:00+00:00");
        read(Check.IAE, "999-01-01T00:00:00+00:00");
        read(YEAR_0 - 89940, "0000-01-01T00:00:00+24:59");
        read(YEAR_10000 - 1 + 89940, "9999-12-31T23:59:59-24:59");
    }

    private static void monthsAndDaysRead() {
        CHECK.sentence("a month and day that are there");
        int[] lengths = {31, 28, 31, 30, 31, 30, 31, 31, 30, 31, 30, 31};
        int[] years = {0, 1, 4, 100, 400, 1582, 1900, 1970, 2000, 2023, 2024, 2100, 9996, 9999};
        for (int year : years) {
            boolean leap = java.time.Year.isLeap(year);
            for (int month = 1; month <= 12; month++) {
                int length = month == 2 && leap ? 29 : lengths[month - 1];
                String head = String.format("%04d-%02d-", year, month);
                read(Check.IAE, head + "00T00:00:00+00:00");
                read(Check.at(head + "01T00:00:00"), head + "01T00:00:00+00:00");
                read(Check.at(head + length + "T00:00:00"), head + length + "T00:00:00+00:00");
                read(Check.IAE, head + (length + 1) + "T00:00:00+00:00");
                read(Check.IAE, head + "99T00:00:00+00:00");
            }
            read(Check.IAE, String.format("%04d-00-01T00:00:00+00:00", year));
            read(Check.IAE, String.format("%04d-13-01T00:00:00+00:00", year));
            read(Check.IAE, String.format("%04d-99-01T00:00:00+00:00", year));
        }
    }

    private static void timesRead() {
        CHECK.sentence("hours 0 .. 23, minutes and seconds 0 .. 59");
        read(0L, "1970-01-01T00:00:00+00:00");
        read(82800L, "1970-01-01T23:00:00+00:00");
        read(Check.IAE, "1970-01-01T24:00:00+00:00");
        read(Check.IAE, "1970-01-01T99:00:00+00:00");
        read(3540L, "1970-01-01T00:59:00+00:00");
        read(Check.IAE, "1970-01-01T00:60:00+00:00");
        read(Check.IAE, "1970-01-01T00:99:00+00:00");
        read(59L, "1970-01-01T00:00:59+00:00");
        read(Check.IAE, "1970-01-01T00:00:60+00:00");
        read(Check.IAE, "1970-01-01T00:00:99+00:00");
        read(86399L, "1970-01-01T23:59:59+00:00");
        read(Check.IAE, "1970-01-01T23:59:60+00:00");
    }

    private static void offsetsRead() {
        CHECK.sentence("offset up to 24:59");
        read(-89940L, "1970-01-01T00:00:00+24:59");
        read(89940L, "1970-01-01T00:00:00-24:59");
        read(-86400L, "1970-01-01T00:00:00+24:00");
        read(0L, "1970-01-01T00:00:00-00:00");
        read(-3540L, "1970-01-01T00:00:00+00:59");
        for (String sign : new String[] {"+", "-"}) {
            read(Check.IAE, "1970-01-01T00:00:00" + sign + "24:60");
            read(Check.IAE, "1970-01-01T00:00:00" + sign + "25:00");
            read(Check.IAE, "1970-01-01T00:00:00" + sign + "00:60");
            read(Check.IAE, "1970-01-01T00:00:00" + sign + "99:99");
            read(Check.IAE, "1970-01-01T00:00:00" + sign + "49:59");
        }
    }

    private static void lessTheOffset() {
        CHECK.sentence("its instant is the local time less the offset");
        read(-60L, "1970-01-01T00:00:00+00:01");
        read(60L, "1970-01-01T00:00:00-00:01");
        read(0L, "1970-01-01T01:30:00+01:30");
        read(0L, "1969-12-31T22:30:00-01:30");
        CHECK.due("the offset that holds is of no account", 0L, Check.read(Check.desk("Z 5 - A"), "1970-01-01T00:00:00+00:00"));
    }

    private static void emptyThen() {
        CHECK.sentence("The draft, a date, is read (it is empty then, whatever comes)");
        ZoneDesk desk = new ZoneDesk();
        CHECK.due("a date", 0L, Check.read(desk, "1970-01-01T00:00:00+00:00"));
        CHECK.due("the draft behind it", 0, desk.line());
        CHECK.due("no date", Check.IAE, Check.read(desk, "1970-01-01T00:00:00+00:99"));
        CHECK.due("the draft behind it", 0, desk.line());
        CHECK.due("an era", Check.IAE, Check.read(desk, "Z 1 - A"));
        CHECK.due("it is not added", 0, desk.eras());
        CHECK.due("the draft behind it", 0, desk.line());
        CHECK.due("sixty characters", Check.IAE, Check.read(desk, "x".repeat(60)));
        CHECK.due("the draft behind them", true, desk.write(' '));
        CHECK.due("a blank", Check.IAE, desk::read);
        CHECK.due("nothing", Check.IAE, desk::read);
        CHECK.due("a date again", 0L, Check.read(desk, "1970-01-01T00:00:00+00:00"));
        CHECK.due("a date is no line", Check.IAE, Check.line(desk, "1970-01-01T00:00:00+00:00"));
        CHECK.due("a line takes it too", Check.IAE, desk::read);
    }

    private static void weekdays() {
        CHECK.sentence("A WEEKDAY is 0 (Sunday) .. 6; the first day of 1970 was a Thursday.");
        ZoneDesk desk = new ZoneDesk();
        for (int day = -15; day <= 15; day++) {
            int due = ((day + 4) % 7 + 7) % 7;
            CHECK.due("first second of day " + day, due, desk.weekday(day * 86400L));
            CHECK.due("last second of day " + day, due, desk.weekday(day * 86400L + 86399));
        }
        CHECK.due("the first day of 1970", 4, desk.weekday(0));
        CHECK.due("Saturday's last second", 6, desk.weekday(3 * 86400L - 1));
        CHECK.due("Sunday's first", 0, desk.weekday(3 * 86400L));
        CHECK.due("an era is of no account", 4, Check.desk("Z 24 - A").weekday(0));
    }

    private static void weekdayOfAnyLong() {
        CHECK.sentence("The weekday of a local time (any long).");
        ZoneDesk desk = new ZoneDesk();
        java.math.BigInteger day = java.math.BigInteger.valueOf(86400);
        for (long local : new long[] {Long.MIN_VALUE, Long.MIN_VALUE + 1, Long.MIN_VALUE + 86399, Long.MIN_VALUE + 86400,
            Long.MAX_VALUE, Long.MAX_VALUE - 1, Long.MAX_VALUE - 86400, -1, -86400, -86401, YEAR_0, YEAR_10000, 1L << 40, -(1L << 50)}) {
            java.math.BigInteger[] parts = java.math.BigInteger.valueOf(local).divideAndRemainder(day);
            java.math.BigInteger days = parts[1].signum() < 0 ? parts[0].subtract(java.math.BigInteger.ONE) : parts[0];
            int due = days.add(java.math.BigInteger.valueOf(4)).mod(java.math.BigInteger.valueOf(7)).intValue();
            CHECK.due("weekday " + local, due, desk.weekday(local));
        }
    }
}
