import java.util.Arrays;

/** Promises 10 to 13: compiling, the image's bytes, and looking up in it. */
public final class ImageTest {
    private static final Check CHECK = new Check();

    public static void main(String[] args) {
        without();
        noChanges();
        everyByte();
        sameTypeAgain();
        silentEdges();
        typesByAllThree();
        nothingButCompileChangesIt();
        wrongArguments();
        steps();
        crowded();
        manyTypes();
        CHECK.finish();
    }

    private static void without() {
        ZoneDesk desk = new ZoneDesk();
        CHECK.due("10: no era", Check.ISE, desk::compile);
        CHECK.due("11: no image", 0, desk.bytes());
        CHECK.due("12: no image", -1, desk.image(0));
        for (int what = -1; what <= 4; what++) {
            int asked = what;
            CHECK.due("13: no image, what " + what, Check.ISE, () -> desk.look(0, asked));
        }
        CHECK.due("3: an era with UNTIL", 2, Check.line(desk, "Z 1 - A 1990"));
        CHECK.due("10: the last era has an UNTIL", Check.ISE, desk::compile);
        CHECK.due("11: no image still", 0, desk.bytes());
    }

    private static void due(ZoneDesk desk, int changes, int... bytes) {
        CHECK.due("10: compile", changes, desk.compile());
        CHECK.due("11: bytes", bytes.length, desk.bytes());
        int[] got = new int[bytes.length];
        for (int i = 0; i < got.length; i++) {
            got[i] = desk.image(i);
        }
        CHECK.due("12: image", Arrays.toString(bytes), Arrays.toString(got));
        CHECK.due("12: behind it", -1, desk.image(bytes.length));
        CHECK.due("12: before it", -1, desk.image(-1));
        CHECK.due("12: far behind it", -1, desk.image(Integer.MAX_VALUE));
        CHECK.due("12: far before it", -1, desk.image(Integer.MIN_VALUE));
    }

    private static void noChanges() {
        ZoneDesk desk = Check.desk("Z -1 - LMT");
        due(desk, 0, 0, 0, 1, 255, 255, 241, 240, 0, 'L', 'M', 'T', 0, 0, 0, 0, 0);
        CHECK.due("13: offset", -3600, desk.look(0, 0));
        CHECK.due("13: save", 0, desk.look(0, 1));
        CHECK.due("13: type", 0, desk.look(Long.MAX_VALUE, 2));
        CHECK.due("13: no steps", 0, desk.look(Long.MIN_VALUE, 3));
    }

    private static void everyByte() {
        // The era ends an hour before 1970 by universal time.
        ZoneDesk desk = Check.desk("R 2 1981 only Jan 1 0u -0:30 ABC", "Z 1 0:00 ABCDEFGH 1970", "Z 2 2 %sABCDEF");
        int fires = (int) Check.at("1981-01-01T00:00:00");
        due(desk, 2, 0, 2, 255, 255, 241, 240, fires >> 24 & 255, fires >> 16 & 255, fires >> 8 & 255, fires & 255, 1, 2, 3,
            0, 0, 14, 16, 0, 'A', 'B', 'C', 'D', 'E', 'F', 'G', 'H',
            0, 0, 28, 32, 0, 'A', 'B', 'C', 'D', 'E', 'F', 0, 0,
            0, 0, 21, 24, 1, 'A', 'B', 'C', 'A', 'B', 'C', 'D', 'E');
        int[][] looks = {{-3601, 3600, 0, 0, 1}, {-3600, 7200, 0, 1, 2}, {0, 7200, 0, 1, 2}, {fires - 1, 7200, 0, 1, 2},
            {fires, 5400, 1, 2, 2}};
        for (int[] one : looks) {
            for (int what = 0; what < 4; what++) {
                CHECK.due("13: look " + one[0] + " " + what, one[what + 1], desk.look(one[0], what));
            }
        }
        CHECK.due("13: far behind", 2, desk.look(Long.MAX_VALUE, 2));
        CHECK.due("13: far before", 0, desk.look(Long.MIN_VALUE, 2));
        CHECK.due("13: beyond 32 bits", 2, desk.look(4294967296L - 5000L, 2));
    }

    private static void sameTypeAgain() {
        ZoneDesk desk = Check.desk("R 0 1980 1989 Mar 1 0 1 S", "R 0 1980 1989 Oct 1 0 0 -", "Z 0 0 A%sB");
        CHECK.due("10: twenty changes", 20, desk.compile());
        CHECK.due("11: two types only", 2 + 20 * 5 + 1 + 2 * 13, desk.bytes());
        for (int i = 0; i < 20; i++) {
            CHECK.due("12: type " + i, i % 2 == 0 ? 1 : 0, desk.image(2 + 80 + i));
        }
    }

    private static void silentEdges() {
        CHECK.due("10: an era like the one before", 0, Check.desk("Z 1 - A 1990", "Z 1 0 A").compile());
        CHECK.due("10: firings that change nothing", 1, Check.desk("R 0 1980 max Mar 1 0 1 S", "Z 1 0 A").compile());
        CHECK.due("10: a firing with the same save and letters", 0, Check.desk("R 0 1980 max Mar 1 0 0 -", "Z 1 0 A%s").compile());
        CHECK.due("10: an era that never comes", 1, Check.desk("Z 1 - A 1990", "Z 2 - B 1980", "Z 3 - C").compile());
        // Both firings have one instant: only the later in order is ever seen.
        ZoneDesk desk = Check.desk("R 0 1980 only Mar 1 0u 1 X", "R 0 1980 only Mar 1 0u 2 Y", "Z 0 0 %s");
        CHECK.due("10: two firings at one instant", 1, desk.compile());
        CHECK.due("11: two types", 2 + 5 + 1 + 26, desk.bytes());
        // An era ends as a firing comes that its own set has too.
        desk = Check.desk("R 0 1980 only Mar 1 0u 1 X", "Z 0 0 %s 1980 Mar 1 0u", "Z 0 0 %s");
        CHECK.due("10: an era's end and a firing at one instant", 1, desk.compile());
        desk = Check.desk("R 0 1980 only Mar 1 0u 1 X", "Z 0 0 %s 1980 Mar 1 0u", "Z 5 - B");
        CHECK.due("10: a firing that comes just too late for its era", 1, desk.compile());
        CHECK.due("11: its type is not there", 2 + 5 + 1 + 26, desk.bytes());
        desk = Check.desk("Z 1 - A 1990 Jan 1 0u", "Z 2 - B 1990 Jan 1 0u", "Z 3 - C");
        CHECK.due("10: two eras that end at one instant", 1, desk.compile());
        CHECK.due("11: the second is not there", 2 + 5 + 1 + 26, desk.bytes());
    }

    private static void typesByAllThree() {
        CHECK.due("10: by the offset", 1, Check.desk("Z 1 - A 1990", "Z 2 - A").compile());
        CHECK.due("10: by the name", 1, Check.desk("Z 1 - A 1990", "Z 1 - B").compile());
        CHECK.due("10: by the save", 1, Check.desk("Z 1 - A 1990", "Z 0 1:00 A").compile());
        CHECK.due("10: by the letters", 2,
            Check.desk("R 0 1980 only Mar 1 0 1 S", "R 0 1980 only Oct 1 0 1 D", "Z 0 0 A%s").compile());
    }

    private static void nothingButCompileChangesIt() {
        ZoneDesk desk = Check.desk("Z 1 - A 1990", "Z 2 - B");
        desk.compile();
        byte[] before = Check.image(desk);
        CHECK.due("3: refused", Check.ISE, Check.line(desk, "Z 3 - C"));
        CHECK.due("3: a rule", 1, Check.line(desk, "R 0 1970 max Mar 1 0 1 S"));
        CHECK.due("12: the image stays", Arrays.toString(before), Arrays.toString(Check.image(desk)));
        CHECK.due("13: and is looked up", 7200, desk.look(Long.MAX_VALUE, 0));
        desk.clear();
        CHECK.due("11: clear takes it", 0, desk.bytes());
        CHECK.due("10: without eras", Check.ISE, desk::compile);
        CHECK.due("3: an era with UNTIL", 2, Check.line(desk, "Z 3 - C 1990"));
        CHECK.due("10: without a last era", Check.ISE, desk::compile);
        CHECK.due("3: the last era", 2, Check.line(desk, "Z 4 0 D"));
        CHECK.due("10: smaller than before", 1, desk.compile());
        CHECK.due("13: the new one", 14400, desk.look(Long.MAX_VALUE, 0));
    }

    private static void wrongArguments() {
        ZoneDesk desk = Check.desk("Z 1 - A");
        desk.compile();
        for (int what : new int[] {-1, 4, Integer.MIN_VALUE, Integer.MAX_VALUE}) {
            CHECK.due("13: what " + what, Check.IAE, () -> desk.look(0, what));
        }
    }

    private static void steps() {
        for (int changes = 1; changes <= 68; changes++) {
            ZoneDesk desk = new ZoneDesk();
            int last = 1969 + (changes + 1) / 2;
            CHECK.due("3: the first rule", 1, Check.line(desk, "R 0 1970 " + last + " Mar 1 0u 1 S"));
            if (changes > 1) {
                CHECK.due("3: the second", 1, Check.line(desk, "R 0 1970 " + (1969 + changes / 2) + " Oct 1 0u 0 -"));
            }
            CHECK.due("3: the era", 2, Check.line(desk, "Z 0 0 A"));
            CHECK.due("10: changes", changes, desk.compile());
            int shortest = 31 - Integer.numberOfLeadingZeros(changes + 1);
            CHECK.due("13: steps behind all", steps(changes, changes - 1), desk.look(Long.MAX_VALUE, 3));
            CHECK.due("13: steps before all", steps(changes, -1), desk.look(Long.MIN_VALUE, 3));
            CHECK.due("13: halvings", true, desk.look(0, 3) - shortest >= 0 && desk.look(0, 3) - shortest <= 1);
        }
    }

    private static int steps(int changes, int place) {
        int steps = 0;
        for (int low = -1, high = changes - 1; low != high; steps++) {
            int middle = (low + high + 1) / 2;
            if (middle <= place) {
                low = middle;
            } else {
                high = middle - 1;
            }
        }
        return steps;
    }

    /** As many changes as one desk can have: every set full, and eras that share out the years. */
    private static void crowded() {
        ZoneDesk desk = new ZoneDesk();
        Model model = new Model();
        String[] offs = {"24:59:59", "-24:59:59", "24:59:59", "-24:59:59"};
        for (int set = 0; set < 3; set++) {
            for (int rule = 0; rule < 6; rule++) {
                String text = "R " + set + " 1970 max " + (rule < 3 ? "Jan" : "D") + " " + (rule < 3 ? rule + 1 : rule + 26)
                    + " 12s 0:0" + rule + " L" + rule;
                CHECK.due("3: " + text, model.line(text), Check.line(desk, text));
            }
        }
        for (int era = 0; era < 4; era++) {
            String text = "Z " + offs[era] + " " + era % 3 + " A%s" + (era < 3 ? " " + (1985 + 16 * era) + " Jan 2 12" : "");
            CHECK.due("3: " + text, model.line(text), Check.line(desk, text));
        }
        Model.Compiled due = (Model.Compiled) model.compile();
        CHECK.due("10: crowded", due.changes().size(), desk.compile());
        CHECK.due("10: more than four hundred", true, due.changes().size() >= 408);
        CHECK.due("12: crowded", Arrays.toString(due.bytes()), Arrays.toString(Check.image(desk)));
    }

    /** Every era passes through all that its set can make of it. */
    private static void manyTypes() {
        ZoneDesk desk = new ZoneDesk();
        Model model = new Model();
        for (int rule = 0; rule < 18; rule++) {
            int year = 1971 + rule / 6 * 10 + rule % 6;
            String text = "R " + rule / 6 + " " + year + (rule < 6 ? " max" : " only") + " Mar " + (1 + rule) + " 0 0 L" + rule;
            CHECK.due("3: " + text, model.line(text), Check.line(desk, text));
        }
        for (String text : new String[] {"Z 1 0 A%s 1980", "Z 2 1 B%s 1990", "Z 3 2 C%s 2000", "Z 4 0 D%s"}) {
            CHECK.due("3: " + text, model.line(text), Check.line(desk, text));
        }
        Model.Compiled due = (Model.Compiled) model.compile();
        CHECK.due("10: many types", due.changes().size(), desk.compile());
        CHECK.due("10: seven for each era, six for the last", 27, due.types().size());
        CHECK.due("12: many types", Arrays.toString(due.bytes()), Arrays.toString(Check.image(desk)));
    }
}
