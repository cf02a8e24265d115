import java.time.LocalDate;

/** Promises 14 to 16: dates written and read, and weekdays. */
public final class DateTest {
    private static final Check CHECK = new Check();

    public static void main(String[] args) {
        written();
        edgesOfYears();
        offsetsWritten();
        everyDay();
        readDates();
        refusedDates();
        theDraft();
        weekdays();
        CHECK.finish();
    }

    private static void written() {
        ZoneDesk desk = new ZoneDesk();
        CHECK.due("14: 0", "1970-01-01T00:00:00+00:00", Check.date(desk, 0));
        CHECK.due("14: -1", "1969-12-31T23:59:59+00:00", Check.date(desk, -1));
        CHECK.due("14: 25", -1, desk.date(0, 25));
        for (int i : new int[] {-1, 26, Integer.MIN_VALUE, Integer.MAX_VALUE}) {
            CHECK.due("14: " + i, -1, desk.date(0, i));
        }
        ZoneDesk zone = Check.desk("R 0 1990 max Mar lastSun 1u 1 S", "R 0 1990 max Oct lastSun 1u 0 -", "Z 1 0 CE%sT");
        CHECK.due("14: before the save", "2024-03-31T01:59:59+01:00", Check.date(zone, 1711846799L));
        CHECK.due("14: with the save", "2024-03-31T03:00:00+02:00", Check.date(zone, 1711846800L));
        zone.clear();
        CHECK.due("14: without an era", "2024-03-31T01:00:00+00:00", Check.date(zone, 1711846800L));
    }

    private static void edgesOfYears() {
        ZoneDesk desk = new ZoneDesk();
        CHECK.due("14: first", "0000-01-01T00:00:00+00:00", Check.date(desk, -62167219200L));
        CHECK.due("14: before it", "", Check.date(desk, -62167219201L));
        CHECK.due("14: last", "9999-12-31T23:59:59+00:00", Check.date(desk, 253402300799L));
        CHECK.due("14: behind it", "", Check.date(desk, 253402300800L));
        for (long t : new long[] {Long.MIN_VALUE, Long.MAX_VALUE, 1000000000000000L, -1000000000000001L, 1L << 40}) {
            CHECK.due("14: " + t, -1, desk.date(t, 0));
            CHECK.due("14: " + t, -1, Check.desk("Z 24 - A").date(t, 24));
            CHECK.due("14: " + t, -1, Check.desk("Z -24 - A").date(t, 24));
        }
        ZoneDesk ahead = Check.desk("Z 1 - A");
        CHECK.due("14: the local year counts", "0000-01-01T00:00:00+01:00", Check.date(ahead, -62167222800L));
        CHECK.due("14: the local year counts", "", Check.date(ahead, -62167222801L));
        CHECK.due("14: the local year counts", "9999-12-31T23:59:59+01:00", Check.date(ahead, 253402297199L));
        CHECK.due("14: the local year counts", "", Check.date(ahead, 253402297200L));
        CHECK.due("14: far out with an offset", "", Check.date(ahead, Long.MAX_VALUE));
        CHECK.due("14: far out with an offset", "", Check.date(Check.desk("Z -1 - A"), Long.MIN_VALUE));
    }

    private static void offsetsWritten() {
        String[][] all = {{"-1:30", "1969-12-31T22:30:00-01:30"}, {"0:00:59", "1970-01-01T00:00:59+00:00"},
            {"-0:00:59", "1969-12-31T23:59:01+00:00"}, {"-0:01", "1969-12-31T23:59:00-00:01"},
            {"-0:01:59", "1969-12-31T23:58:01-00:01"}, {"24:59:59", "1970-01-02T00:59:59+24:59"},
            {"5:45:10", "1970-01-01T05:45:10+05:45"}};
        for (String[] one : all) {
            CHECK.due("14: offset " + one[0], one[1], Check.date(Check.desk("Z " + one[0] + " - A"), 0));
        }
        CHECK.due("14: the largest", "1970-01-03T01:59:58+49:59", Check.date(Check.desk("Z 24:59:59 24:59:59 A"), 0));
        CHECK.due("14: the smallest", "1969-12-29T22:00:02-49:59", Check.date(Check.desk("Z -24:59:59 -24:59:59 A"), 0));
    }

    private static void everyDay() {
        ZoneDesk desk = new ZoneDesk();
        LocalDate end = LocalDate.of(9999, 12, 31);
        for (LocalDate day = LocalDate.of(0, 1, 1); day.isBefore(end); day = day.plusDays(day.getYear() % 100 == 0 ? 1 : 13)) {
            String text = String.format("%04d-%02d-%02d", day.getYear(), day.getMonthValue(), day.getDayOfMonth());
            long noon = day.toEpochDay() * 86400L + 43200L;
            CHECK.due("14: day", text + "T12:00:00+00:00", Check.date(desk, noon));
            CHECK.due("15: day", noon, Check.read(desk, text + "T12:00:00+00:00"));
            CHECK.due("16: day " + text, day.getDayOfWeek().getValue() % 7, desk.weekday(noon));
        }
    }

    private static void read(Object want, String text) {
        CHECK.due("15: read " + text, want, Check.read(new ZoneDesk(), text));
    }

    private static void readDates() {
        read(0L, "1970-01-01T00:00:00+00:00");
        read(0L, "1970-01-01T00:00:00-00:00");
        read(951874199L, "2000-02-29T23:59:59-01:30");
        read(-62167219200L, "0000-01-01T00:00:00+00:00");
        read(-62167309140L, "0000-01-01T00:00:00+24:59");
        read(253402390739L, "9999-12-31T23:59:59-24:59");
        read(Check.at("0000-02-29T00:00:00"), "0000-02-29T00:00:00+00:00");
    }

    private static void refusedDates() {
        String[] bad = {"", " ", "1970-01-01T00:00:00+00:0", "1970-01-01T00:00:00+00:000", " 1970-01-01T00:00:00+00:00",
            "1970-01-01T00:00:00+00:00 ", "1970-01-01 00:00:00+00:00", "1970-01-01t00:00:00+00:00",
            "1970/01-01T00:00:00+00:00", "1970-01-01T00-00:00+00:00", "1970-01-01T00:00:00 00:00",
            "1970-01-01T00:00:00Z00:00", "1970-01-01T00:00:00+0000:", "1970-00-01T00:00:00+00:00",
            "1970-13-01T00:00:00+00:00", "1970-01-00T00:00:00+00:00", "1970-01-32T00:00:00+00:00",
            "1970-04-31T00:00:00+00:00", "1970-06-31T00:00:00+00:00", "1970-09-31T00:00:00+00:00",
            "1970-11-31T00:00:00+00:00", "1970-02-29T00:00:00+00:00", "1900-02-29T00:00:00+00:00",
            "2000-02-30T00:00:00+00:00", "1970-01-01T24:00:00+00:00", "1970-01-01T00:60:00+00:00",
            "1970-01-01T00:00:60+00:00", "1970-01-01T00:00:00+25:00", "1970-01-01T00:00:00+24:60",
            "1970-01-01T00:00:00+00:60", "197x-01-01T00:00:00+00:00", "-970-01-01T00:00:00+00:00",
            "+970-01-01T00:00:00+00:00", "1970-01-01T00:00:00+-1:00", "1970-1-01T00:00:00+00:000", "Z 1 - A"};
        for (String text : bad) {
            read(Check.IAE, text);
        }
    }

    private static void theDraft() {
        ZoneDesk desk = Check.desk("Z 1 - A");
        CHECK.due("15: the offset that holds is of no account", 0L, Check.read(desk, "1970-01-01T00:00:00+00:00"));
        CHECK.due("15: the draft is empty then", Check.IAE, desk::read);
        CHECK.due("15: a bad one", Check.IAE, Check.read(desk, "bad"));
        CHECK.due("15: the draft is empty then too", 0, desk.line());
        CHECK.due("15: and the desk as it was", 1, desk.eras());
    }

    private static void weekdays() {
        ZoneDesk desk = new ZoneDesk();
        CHECK.due("16: 0", 4, desk.weekday(0));
        CHECK.due("16: last second of the day", 4, desk.weekday(86399));
        CHECK.due("16: next day", 5, desk.weekday(86400));
        CHECK.due("16: -1", 3, desk.weekday(-1));
        CHECK.due("16: the week's end", 6, desk.weekday(2 * 86400));
        CHECK.due("16: Sunday", 0, desk.weekday(3 * 86400));
        CHECK.due("16: smallest", 0, desk.weekday(Long.MIN_VALUE));
        CHECK.due("16: largest", Math.floorMod(Long.MAX_VALUE / 86400 + 4, 7), desk.weekday(Long.MAX_VALUE));
    }
}
