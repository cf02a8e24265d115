/** Promises 3, 6, 9, 10, 13 and 15: what a call that throws leaves as it was, and which exception comes. */
public final class ThrowEdgesTest {
    private static final Check CHECK = new Check();
    private static final long[] TIMES = {Long.MIN_VALUE, -1, 0, 320716800L, 631152000L, 631155600L, 1000000000L, 3000000000L, Long.MAX_VALUE};

    public static void main(String[] args) {
        linesThatThrow();
        lineBehindAFullSet();
        lineBehindFourEras();
        readsThatThrow();
        holdsThatThrow();
        looksThatThrow();
        instantsThatThrow();
        compilesThatThrow();
        lineNamesItsExceptions();
        holdsNamesItsExceptions();
        lookNamesItsExceptions();
        CHECK.finish();
    }

    private static final String NOTHING_BUT = "A call that throws changes nothing but the draft";
    private static final String NAMED_FIRST = "of two exceptions the one named first is thrown";

    /** Six rules in set 1, three eras with one that is last, and an image older than the rules. */
    private static ZoneDesk desk() {
        ZoneDesk desk = Check.desk("R 1 1980 1985 Mar 1 2 1 A", "R 1 1980 max O 1 2s 0 B", "Z 1 1 N%s 1990", "Z 2 0:30 S/D 1995", "Z 3 1 %z");
        desk.compile();
        for (int i = 0; i < 4; i++) {
            Check.line(desk, "R 1 200" + i + " max May " + (i + 1) + " 2u -1 C" + i);
        }
        return desk;
    }

    private static void line(ZoneDesk desk, Object due, String text) {
        String before = Check.told(desk, TIMES);
        CHECK.due("line " + text, due, Check.line(desk, text));
        CHECK.due("all is as it was behind " + text, before, Check.told(desk, TIMES));
        CHECK.due("the draft is empty behind " + text, 0, desk.line());
    }

    private static void linesThatThrow() {
        CHECK.sentence(NOTHING_BUT);
        ZoneDesk desk = desk();
        line(desk, Check.IAE, "x");
        line(desk, Check.IAE, "R 0 1990 max Mar 1 0 1");
        line(desk, Check.IAE, "R 0 1990 1989 Mar 1 0 1 S");
        line(desk, Check.IAE, "R 0 1990 max Mar 1 0 1 SSSS");
        line(desk, Check.IAE, "R 3 1990 max Mar 1 0 1 S");
        line(desk, Check.IAE, "Z 1 3 A");
        line(desk, Check.ISE, "Z 1 1 A");
        line(desk, Check.ISE, "Z 1 1 A 2000");
    }

    private static void lineBehindAFullSet() {
        CHECK.sentence(NOTHING_BUT);
        ZoneDesk desk = desk();
        line(desk, Check.ISE, "R 1 1970 max Jan 1 0 5 S");
        line(desk, Check.ISE, "R 1 1970 only Jan 1 0u 5 S");
        desk.compile();
        line(desk, Check.ISE, "R 1 1970 max Jan 1 0 5 S");
        CHECK.due("a rule of another set", 1, Check.line(desk, "R 2 1970 max Jan 1 0 5 S"));
    }

    private static void lineBehindFourEras() {
        CHECK.sentence(NOTHING_BUT);
        ZoneDesk desk = Check.desk("Z 1 - A 1980", "Z 2 - B 1985", "Z 3 - C 1990", "Z 4 - D 1995");
        line(desk, Check.ISE, "Z 5 - E 2000");
        line(desk, Check.ISE, "Z 5 - E");
    }

    private static void readsThatThrow() {
        CHECK.sentence(NOTHING_BUT);
        ZoneDesk desk = desk();
        for (String text : new String[] {"", "x", "2024-02-30T00:00:00+00:00", "R 2 1990 max Mar 1 0 1 S"}) {
            String before = Check.told(desk, TIMES);
            CHECK.due("read " + text, Check.IAE, Check.read(desk, text));
            CHECK.due("all is as it was behind " + text, before, Check.told(desk, TIMES));
            CHECK.due("the draft is empty behind " + text, 0, desk.line());
        }
    }

    private static void call(ZoneDesk desk, String name, Object due, Check.Call call) {
        String before = Check.told(desk, TIMES);
        Check.type(desk, "1970-01-01T00:00:00");
        CHECK.due(name, due, call);
        CHECK.due("the draft behind " + name, 0L, Check.read(desk, "+00:00"));
        CHECK.due("all is as it was behind " + name, before, Check.told(desk, TIMES));
    }

    private static void holdsThatThrow() {
        CHECK.sentence(NOTHING_BUT);
        ZoneDesk desk = desk();
        ZoneDesk empty = Check.desk("R 0 1970 max Jan 1 0 5 S");
        call(desk, "holds(0, 3)", Check.IAE, () -> desk.holds(0, 3));
        call(desk, "holds(0, -1)", Check.IAE, () -> desk.holds(0, -1));
        call(empty, "holds(0, 0) without an era", Check.ISE, () -> empty.holds(0, 0));
    }

    private static void looksThatThrow() {
        CHECK.sentence(NOTHING_BUT);
        ZoneDesk desk = desk();
        ZoneDesk without = Check.desk("R 0 1970 max Jan 1 0 5 S", "Z 1 0 A");
        call(desk, "look(0, 4)", Check.IAE, () -> desk.look(0, 4));
        call(desk, "look(0, -1)", Check.IAE, () -> desk.look(0, -1));
        call(without, "look(0, 0) without an image", Check.ISE, () -> without.look(0, 0));
    }

    private static void instantsThatThrow() {
        CHECK.sentence(NOTHING_BUT);
        ZoneDesk desk = desk();
        ZoneDesk empty = Check.desk("R 0 1970 max Jan 1 0 5 S");
        call(desk, "instant(0, 1)", Check.NSE, () -> desk.instant(0, 1));
        call(desk, "instant(0, -1)", Check.NSE, () -> desk.instant(0, -1));
        call(desk, "instant(max, 0)", Check.NSE, () -> desk.instant(Long.MAX_VALUE, 0));
        call(empty, "instant(0, 0) without an era", Check.NSE, () -> empty.instant(0, 0));
    }

    private static void compilesThatThrow() {
        CHECK.sentence(NOTHING_BUT);
        ZoneDesk empty = Check.desk("R 0 1970 max Jan 1 0 5 S");
        ZoneDesk ended = Check.desk("R 0 1970 max Jan 1 0 5 S", "Z 1 0 A 1980", "Z 2 0 B 1990");
        call(empty, "compile without an era", Check.ISE, empty::compile);
        call(ended, "compile with UNTIL", Check.ISE, ended::compile);
        CHECK.due("an era can still be added", 2, Check.line(ended, "Z 3 - C"));
        CHECK.due("and compiled", true, ended.compile() > 0);
    }

    private static void lineNamesItsExceptions() {
        CHECK.sentence(NAMED_FIRST);
        ZoneDesk desk = desk();
        CHECK.due("no rule, the set full", Check.IAE, Check.line(desk, "R 1 1970 max Jan 1 0 5 SSSS"));
        CHECK.due("no rule, the set full", Check.IAE, Check.line(desk, "R 1 1970 max Jan 0 0 5 S"));
        CHECK.due("no era, the era before without UNTIL", Check.IAE, Check.line(desk, "Z 1 1 A//"));
        CHECK.due("no era, the era before without UNTIL", Check.IAE, Check.line(desk, "Z 1 1 A 1990 Jan 1 25"));
        ZoneDesk four = Check.desk("Z 1 - A 1980", "Z 2 - B 1985", "Z 3 - C 1990", "Z 4 - D 1995");
        CHECK.due("no era, four of them there", Check.IAE, Check.line(four, "Z 25 - E"));
        CHECK.due("an era", Check.ISE, Check.line(four, "Z 24 - E"));
    }

    private static void holdsNamesItsExceptions() {
        CHECK.sentence(NAMED_FIRST);
        for (int what : new int[] {-1, 3, Integer.MIN_VALUE, Integer.MAX_VALUE}) {
            CHECK.due("holds(0, " + what + ") without an era", Check.ISE, () -> new ZoneDesk().holds(0, what));
            CHECK.due("holds(0, " + what + ")", Check.IAE, () -> desk().holds(0, what));
        }
    }

    private static void lookNamesItsExceptions() {
        CHECK.sentence(NAMED_FIRST);
        for (int what : new int[] {-1, 4, Integer.MIN_VALUE, Integer.MAX_VALUE}) {
            CHECK.due("look(0, " + what + ") without an image", Check.ISE, () -> Check.desk("Z 1 - A").look(0, what));
            CHECK.due("look(0, " + what + ")", Check.IAE, () -> desk().look(0, what));
        }
    }
}
