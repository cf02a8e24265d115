import java.util.ArrayList;
import java.util.Arrays;
import java.util.List;
import java.util.Random;

/** Promises 3 to 17: runs by chance (always the same ones), each answer against the model's. */
public final class ModelTest {
    private static final Check CHECK = new Check();
    private static final Random RANDOM = new Random(20261115L);

    private static final String[] MONTHS = {"Jan", "F", "Mar", "Ap", "May", "Jun", "Jul", "Au", "S", "O", "Nov", "D"};
    private static final String[] NAMES = {"Su", "M", "Tue", "Wednes", "Th", "F", "Saturday"};
    private static final String[] SAVES = {"0", "1", "0:30", "-1", "2", "24:59:59", "-24:59:59", "0:00:30", "-0:20:10"};
    private static final String[] FORMATS = {"A%sB", "%s", "S/D", "%z", "LMT", "ABCDEF%s", "/D", "S/"};
    private static final String[] BROKEN = {"J", "S", "x", "0", "25", "1:5", "lastT", "Su>=32", "A/B/C", "%", "-1",
        "1969", "2038", "3", "-", "ABCD", "ABCDEFGHI", "R", "Z", "%s%s", "-0:01", "1u", "max", "only", "1:00"};

    public static void main(String[] args) {
        int runs = args.length > 0 ? Integer.parseInt(args[0]) : 1500;
        for (int run = 0; run < runs; run++) {
            oneRun(run);
        }
        for (int i = 0; i < 20000; i++) {
            readDate();
        }
        CHECK.finish();
    }

    private static String pick(String... words) {
        return words[RANDOM.nextInt(words.length)];
    }

    private static String day() {
        int number = 1 + RANDOM.nextInt(31);
        return switch (RANDOM.nextInt(4)) {
            case 0 -> "" + number;
            case 1 -> "last" + pick(NAMES);
            case 2 -> pick(NAMES) + ">=" + number;
            default -> pick(NAMES) + "<=" + number;
        };
    }

    private static String clock() {
        return pick("0", "1", "2", "24", "24:59:59", "2:30", "0:00:01", "12") + pick("", "w", "s", "u", "g", "z");
    }

    /** A narrow desk crowds the firings on few days, so that their instants pass one another. */
    private static String rule(boolean narrow, int years) {
        int from = 1970 + RANDOM.nextInt(68);
        int span = RANDOM.nextInt(years);
        String to = RANDOM.nextInt(3) == 0 ? pick("only", "max") : "" + Math.min(2037, from + span);
        if (years < 20 && to.equals("max")) {
            from = Math.max(from, 2030);
        }
        String month = narrow ? "Mar" : pick(MONTHS);
        String day = narrow ? "" + (10 + RANDOM.nextInt(4)) : day();
        return "R " + RANDOM.nextInt(narrow ? 1 : 3) + " " + from + " " + to + " " + month + " " + day + " " + clock() + " "
            + pick(SAVES) + " " + pick("-", "S", "D", "DD", "XYZ");
    }

    private static String era(boolean narrow, boolean last) {
        String saves = narrow ? "0" : RANDOM.nextInt(4) == 0 ? pick("-", "1:00", "-0:30", "0:00") : "" + RANDOM.nextInt(3);
        String head = "Z " + pick("0", "1", "-5:30", "24:59:59", "-24:59:59", "0:00:59", "-0:00:59", "13:45") + " " + saves
            + " " + pick(FORMATS);
        if (last) {
            return head;
        }
        head += " " + (1970 + RANDOM.nextInt(68));
        int more = narrow ? 3 : RANDOM.nextInt(4);
        head += more > 0 ? " " + (narrow ? "Mar" : pick(MONTHS)) : "";
        head += more > 1 ? " " + (narrow ? "" + (10 + RANDOM.nextInt(4)) : day()) : "";
        return head + (more > 2 ? " " + clock() : "");
    }

    private static String broken(String text) {
        String[] words = text.split(" ");
        words[RANDOM.nextInt(words.length)] = pick(BROKEN);
        return String.join(RANDOM.nextBoolean() ? " " : "  ", words);
    }

    private static void oneRun(int run) {
        ZoneDesk desk = new ZoneDesk();
        Model model = new Model();
        boolean narrow = RANDOM.nextInt(3) == 0;
        int years = run % 25 == 0 ? 68 : 12;
        List<String> lines = new ArrayList<>();
        int rules = RANDOM.nextInt(narrow ? 7 : 16);
        for (int i = 0; i < rules; i++) {
            lines.add(rule(narrow, years));
        }
        int eras = RANDOM.nextInt(5);
        for (int i = 0; i < eras; i++) {
            lines.add(RANDOM.nextInt(lines.size() + 1), era(narrow, false));
        }
        if (RANDOM.nextInt(8) != 0) {
            lines.add(era(narrow, true));
        }
        if (RANDOM.nextInt(10) == 0) {
            Check.line(desk, rule(narrow, years));
            Check.line(desk, era(narrow, true));
            desk.compile();
            desk.clear();
        }
        for (String text : lines) {
            addLine(run, desk, model, RANDOM.nextInt(15) == 0 ? broken(text) : text);
        }
        String told = run + " " + lines;
        askInstants(told, desk, model);
        askLocals(told, desk, model);
        askImage(told, desk, model);
    }

    private static void addLine(int run, ZoneDesk desk, Model model, String text) {
        if (text.length() > 60) {
            return;
        }
        CHECK.due(run + " line " + text, model.line(text), Check.line(desk, text));
        for (int set = 0; set < 3; set++) {
            CHECK.due(run + " rules", model.sets.get(set).size(), desk.rules(set));
        }
        CHECK.due(run + " eras", model.eras.size(), desk.eras());
    }

    private static List<Long> instants(Model model) {
        List<Long> edges = new ArrayList<>(model.edges());
        List<Long> all = new ArrayList<>(Arrays.asList(0L, Long.MIN_VALUE, Long.MAX_VALUE, -2147483648L, 2147483647L));
        for (int i = 0; i < 12; i++) {
            all.add(RANDOM.nextLong() >> RANDOM.nextInt(50));
            if (!edges.isEmpty()) {
                long edge = edges.get(RANDOM.nextInt(edges.size()));
                all.add(edge - 1);
                all.add(edge);
            }
        }
        return all;
    }

    private static void askInstants(String told, ZoneDesk desk, Model model) {
        for (long t : instants(model)) {
            CHECK.due(told + " date " + t, model.date(t), Check.date(desk, t));
            if (model.eras.isEmpty()) {
                CHECK.due(told + " holds", Check.ISE, () -> desk.holds(t, 7));
                CHECK.due(told + " letter", -1, desk.letter(t, 0));
                continue;
            }
            Model.State state = model.at(t);
            CHECK.due(told + " holds " + t + " 0", state.offset(), () -> desk.holds(t, 0));
            CHECK.due(told + " holds " + t + " 1", state.saves() ? 1 : 0, () -> desk.holds(t, 1));
            CHECK.due(told + " holds " + t + " 2", model.eraAt(t), () -> desk.holds(t, 2));
            CHECK.due(told + " name " + t, state.name(), Check.name(desk, t));
        }
    }

    private static void askLocals(String told, ZoneDesk desk, Model model) {
        List<Long> locals = new ArrayList<>(Arrays.asList(1000000000000000L, 1000000000000001L, -1000000000000000L,
            -1000000000000001L, Long.MAX_VALUE, Long.MIN_VALUE));
        List<Long> edges = new ArrayList<>(model.edges());
        for (int i = 0; i < 12 && !edges.isEmpty(); i++) {
            long edge = edges.get(RANDOM.nextInt(edges.size()));
            locals.add(edge + model.at(edge).offset() - RANDOM.nextInt(2));
            locals.add(edge + model.at(edge - 1).offset() - RANDOM.nextInt(2));
            locals.add(edge + RANDOM.nextInt(200000) - 100000);
        }
        for (long local : locals) {
            List<Long> due = model.shown(local);
            List<Object> got = new ArrayList<>();
            for (int k = 0; k < due.size(); k++) {
                got.add(Check.kth(desk, local, k));
            }
            CHECK.due(told + " shown " + local, due.size(), desk.shown(local));
            CHECK.due(told + " instants of " + local, due, got);
            CHECK.due(told + " one more of " + local, Check.NSE, Check.kth(desk, local, due.size()));
            CHECK.due(told + " -1 of " + local, Check.NSE, Check.kth(desk, local, -1));
        }
    }

    private static void askImage(String told, ZoneDesk desk, Model model) {
        Object due = model.compile();
        Object got = Check.answerOf(desk::compile);
        if (!(due instanceof Model.Compiled image)) {
            CHECK.due(told + " compile", due, got);
            CHECK.due(told + " bytes", 0, desk.bytes());
            return;
        }
        CHECK.due(told + " compile", image.changes().size(), got);
        CHECK.due(told + " image", Arrays.toString(image.bytes()), Arrays.toString(Check.image(desk)));
        for (long t : instants(model)) {
            int low = -1;
            int high = image.changes().size() - 1;
            int steps = 0;
            for (; low != high; steps++) {
                int middle = (low + high + 1) / 2;
                low = image.changes().get(middle) <= t ? middle : low;
                high = image.changes().get(middle) <= t ? high : middle - 1;
            }
            int type = low < 0 ? 0 : image.typeOf().get(low);
            CHECK.due(told + " look " + t + " 0", image.types().get(type).offset(), desk.look(t, 0));
            CHECK.due(told + " look " + t + " 1", image.types().get(type).saves() ? 1 : 0, desk.look(t, 1));
            CHECK.due(told + " look " + t + " 2", type, desk.look(t, 2));
            CHECK.due(told + " look " + t + " 3", steps, desk.look(t, 3));
        }
    }

    private static void readDate() {
        String text = String.format("%04d-%02d-%02dT%02d:%02d:%02d%s%02d:%02d", RANDOM.nextInt(10000),
            RANDOM.nextInt(14), RANDOM.nextInt(33), RANDOM.nextInt(25), RANDOM.nextInt(61), RANDOM.nextInt(61),
            pick("+", "-"), RANDOM.nextInt(26), RANDOM.nextInt(61));
        if (RANDOM.nextInt(4) == 0) {
            int at = RANDOM.nextInt(text.length());
            text = text.substring(0, at) + (char) (32 + RANDOM.nextInt(95)) + text.substring(at + 1);
        }
        CHECK.due("read " + text, Model.read(text), Check.read(new ZoneDesk(), text));
    }
}
