/** Promises 8 and 9: how many instants show a local time, and which. */
public final class LocalTest {
    private static final Check CHECK = new Check();
    private static final long FAR = 1000000000000000L;

    public static void main(String[] args) {
        withoutEra();
        limits();
        gapAndOverlap();
        manyInstants();
        atAnEra();
        CHECK.finish();
    }

    private static void due(ZoneDesk desk, long local, Long... instants) {
        CHECK.due("8: shown " + local, instants.length, desk.shown(local));
        for (int k = 0; k < instants.length; k++) {
            CHECK.due("9: instant " + k + " of " + local, instants[k], Check.kth(desk, local, k));
        }
        for (int k : new int[] {-1, instants.length, instants.length + 1, 28, 1000, Integer.MIN_VALUE, Integer.MAX_VALUE}) {
            CHECK.due("9: instant " + k + " of " + local, Check.NSE, Check.kth(desk, local, k));
        }
    }

    private static void withoutEra() {
        due(Check.desk("R 0 1970 max Mar 1 0 1 S"), 0L);
        ZoneDesk desk = Check.desk("Z 1 - A");
        due(desk, 0L, -3600L);
        desk.clear();
        due(desk, 0L);
    }

    private static void limits() {
        ZoneDesk desk = Check.desk("Z 1 - A");
        due(desk, FAR, FAR - 3600);
        due(desk, -FAR, -FAR - 3600);
        due(desk, FAR + 1);
        due(desk, -FAR - 1);
        due(desk, Long.MAX_VALUE);
        due(desk, Long.MIN_VALUE);
    }

    private static void gapAndOverlap() {
        ZoneDesk desk = Check.desk("R 0 1990 max Mar lastSun 1u 1 S", "R 0 1990 max Oct lastSun 1u 0 -", "Z 1 0 CE%sT");
        long gap = Check.at("2024-03-31T02:00:00");
        due(desk, gap - 1, gap - 1 - 3600);
        due(desk, gap);
        due(desk, gap + 3599);
        due(desk, gap + 3600, gap - 3600);
        long twice = Check.at("2024-10-27T02:00:00");
        due(desk, twice - 1, twice - 1 - 7200);
        due(desk, twice, twice - 7200, twice - 3600);
        due(desk, twice + 3599, twice + 3599 - 7200, twice + 3599 - 3600);
        due(desk, twice + 3600, twice);
        due(desk, 0L, -3600L);
    }

    private static void manyInstants() {
        // Each firing, half an hour behind the one before, sets the clock an hour back.
        ZoneDesk desk = Check.desk("R 0 2001 only Jun 1 0u -1 A", "R 0 2001 only Jun 1 0:30u -2 B",
            "R 0 2001 only Jun 1 1u -3 C", "Z 0 0 %s");
        long day = Check.at("2001-06-01T00:00:00");
        due(desk, day - 3600, day - 3600, day, day + 7200);
        due(desk, day - 3601, day - 3601, day + 3599, day + 7199);
        due(desk, day - 7200, day - 7200, day + 3600);
        due(desk, day - 7201, day - 7201);
        due(desk, day - 1, day - 1, day + 10799);
        due(desk, day, day + 10800);
    }

    private static void atAnEra() {
        ZoneDesk desk = Check.desk("Z 10 - A 1990 Jan 1 0u", "Z -10 - B 2000 Jan 1 0u", "Z 10 - C");
        long edge = Check.at("1990-01-01T00:00:00");
        due(desk, edge, edge - 36000, edge + 36000);
        due(desk, edge - 36000, edge - 72000, edge);
        due(desk, edge - 36001, edge - 72001);
        due(desk, edge + 36000, edge + 72000);
        long gap = Check.at("2000-01-01T00:00:00");
        due(desk, gap);
        due(desk, gap - 36001, gap - 1);
        due(desk, gap - 36000);
        due(desk, gap + 36000, gap);
    }
}
