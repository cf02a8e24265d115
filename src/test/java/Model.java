import java.time.DayOfWeek;
import java.time.LocalDate;
import java.time.LocalDateTime;
import java.time.ZoneOffset;
import java.time.temporal.TemporalAdjusters;
import java.util.ArrayList;
import java.util.Arrays;
import java.util.List;
import java.util.TreeSet;
import java.util.regex.Matcher;
import java.util.regex.Pattern;

/** The document read once more, with the Java library and without any care for speed. */
final class Model {
    private static final List<String> MONTHS = Arrays.asList("January", "February", "March", "April", "May", "June",
        "July", "August", "September", "October", "November", "December");
    private static final List<String> DAYS = Arrays.asList("Sunday", "Monday", "Tuesday", "Wednesday", "Thursday",
        "Friday", "Saturday");
    private static final Pattern TIME = Pattern.compile("(-?)(\\d{1,2})(?::(\\d\\d)(?::(\\d\\d))?)?");
    private static final Pattern DAY = Pattern.compile("(\\d{1,2})|last([A-Z][a-z]*)|([A-Z][a-z]*)([<>])=(\\d{1,2})");
    private static final Pattern DATE = Pattern.compile(
        "(\\d{4})-(\\d\\d)-(\\d\\d)T(\\d\\d):(\\d\\d):(\\d\\d)([+-])(\\d\\d):(\\d\\d)");

    record When(int month, String day, int clock, char base) {
        long nominal(int year) {
            return LocalDate.of(year, month, 1).with(d -> dayIn(LocalDate.from(d))).toEpochDay() * 86400 + clock;
        }

        private LocalDate dayIn(LocalDate first) {
            Matcher m = DAY.matcher(day);
            m.matches();
            if (m.group(1) != null) {
                return first.plusDays(Integer.parseInt(m.group(1)) - 1);
            }
            if (m.group(2) != null) {
                return first.with(TemporalAdjusters.lastInMonth(dayOfWeek(m.group(2))));
            }
            LocalDate from = first.plusDays(Integer.parseInt(m.group(5)) - 1);
            DayOfWeek name = dayOfWeek(m.group(3));
            return from.with(m.group(4).equals(">") ? TemporalAdjusters.nextOrSame(name) : TemporalAdjusters.previousOrSame(name));
        }

        long instant(long nominal, int off, int save) {
            return base == 'u' ? nominal : base == 's' ? nominal - off : nominal - off - save;
        }
    }

    record Rule(int set, int from, int to, When when, int save, String letters) { }

    record Firing(long nominal, Rule rule) { }

    record Era(int off, Integer set, int own, String format, Integer untilYear, When until) { }

    record State(int offset, boolean saves, String name) { }

    final List<List<Rule>> sets = List.of(new ArrayList<>(), new ArrayList<>(), new ArrayList<>());
    final List<Era> eras = new ArrayList<>();
    private final List<List<Firing>> firings = new ArrayList<>(Arrays.asList(List.of(), List.of(), List.of()));

    private static Integer only(List<String> names, String word) {
        Integer found = null;
        for (int i = 0; i < names.size(); i++) {
            if (!word.isEmpty() && names.get(i).startsWith(word)) {
                if (found != null) {
                    return null;
                }
                found = i;
            }
        }
        return found;
    }

    private static DayOfWeek dayOfWeek(String word) {
        int day = only(DAYS, word);
        return DayOfWeek.of(day == 0 ? 7 : day);
    }

    private static Integer time(String word) {
        Matcher m = TIME.matcher(word);
        if (!m.matches()) {
            return null;
        }
        int h = Integer.parseInt(m.group(2));
        int min = m.group(3) == null ? 0 : Integer.parseInt(m.group(3));
        int s = m.group(4) == null ? 0 : Integer.parseInt(m.group(4));
        if (h > 24 || min > 59 || s > 59) {
            return null;
        }
        return (m.group(1).isEmpty() ? 1 : -1) * (h * 3600 + min * 60 + s);
    }

    private static Integer year(String word) {
        if (!word.matches("\\d{4}")) {
            return null;
        }
        int year = Integer.parseInt(word);
        return year < 1970 || year > 2037 ? null : year;
    }

    private static boolean isDay(String word) {
        Matcher m = DAY.matcher(word);
        if (!m.matches()) {
            return false;
        }
        String name = m.group(2) != null ? m.group(2) : m.group(3);
        String number = m.group(1) != null ? m.group(1) : m.group(5);
        return (name == null || only(DAYS, name) != null)
            && (number == null || (Integer.parseInt(number) >= 1 && Integer.parseInt(number) <= 31));
    }

    private static When when(String month, String day, String clock) {
        Integer m = only(MONTHS, month);
        String base = clock.matches(".*[wsugz]") ? clock.substring(clock.length() - 1) : "";
        Integer time = time(clock.substring(0, clock.length() - base.length()));
        if (m == null || !isDay(day) || time == null || time < 0) {
            return null;
        }
        return new When(m + 1, day, time, base.isEmpty() || base.equals("w") ? 'w' : base.equals("s") ? 's' : 'u');
    }

    private static Rule rule(String[] w) {
        if (w.length != 9 || !w[0].equals("R") || !w[1].matches("[012]")) {
            return null;
        }
        Integer from = year(w[2]);
        Integer to = w[3].equals("only") ? from : w[3].equals("max") ? Integer.valueOf(2037) : year(w[3]);
        When when = when(w[4], w[5], w[6]);
        Integer save = time(w[7]);
        if (from == null || to == null || to < from || when == null || save == null || w[8].length() > 3) {
            return null;
        }
        return new Rule(Integer.parseInt(w[1]), from, to, when, save, w[8].equals("-") ? "" : w[8]);
    }

    private static Era era(String[] w) {
        if (w.length < 4 || w.length > 8 || !w[0].equals("Z")) {
            return null;
        }
        Integer off = time(w[1]);
        Integer set = w[2].matches("[012]") ? Integer.valueOf(w[2]) : null;
        Integer own = set != null || w[2].equals("-") ? Integer.valueOf(0) : w[2].contains(":") ? time(w[2]) : null;
        boolean format = w[3].length() <= 8 && w[3].matches("[^/%]*/[^/%]*|[^/%]*%s[^/%]*|%z|[^/%]+");
        Integer year = w.length > 4 ? year(w[4]) : Integer.valueOf(1970);
        When until = when(w.length > 5 ? w[5] : "January", w.length > 6 ? w[6] : "1", w.length > 7 ? w[7] : "0");
        if (off == null || own == null || !format || year == null || until == null) {
            return null;
        }
        return new Era(off, set, own, w[3], w.length > 4 ? year : null, until);
    }

    Object line(String text) {
        if (text.isBlank()) {
            return 0;
        }
        String[] words = text.trim().split(" +");
        Rule rule = rule(words);
        Era era = era(words);
        if (rule != null) {
            List<Rule> set = sets.get(rule.set);
            if (set.size() == 6) {
                return Check.ISE;
            }
            set.add(rule);
            List<Firing> all = new ArrayList<>();
            for (Rule r : set) {
                for (int y = r.from; y <= r.to; y++) {
                    all.add(new Firing(r.when.nominal(y), r));
                }
            }
            all.sort((a, b) -> a == b ? 0 : Long.compare(a.nominal, b.nominal));
            firings.set(rule.set, all);
            return 1;
        }
        if (era == null) {
            return Check.IAE;
        }
        if (eras.size() == 4 || (!eras.isEmpty() && eras.get(eras.size() - 1).untilYear == null)) {
            return Check.ISE;
        }
        eras.add(era);
        return 2;
    }

    void clear() {
        eras.clear();
        for (int i = 0; i < 3; i++) {
            sets.get(i).clear();
            firings.set(i, List.of());
        }
    }

    private List<Firing> of(Era era) {
        return era.set == null ? List.of() : firings.get(era.set);
    }

    private long firingInstant(Era era, int i) {
        List<Firing> all = of(era);
        int before = i == 0 ? 0 : all.get(i - 1).rule.save;
        return all.get(i).rule.when.instant(all.get(i).nominal, era.off, before);
    }

    private long untilInstant(Era era) {
        long nominal = era.until.nominal(era.untilYear);
        int save = era.own;
        for (Firing f : of(era)) {
            save = f.nominal <= nominal ? f.rule.save : save;
        }
        return era.until.instant(nominal, era.off, save);
    }

    int eraAt(long t) {
        for (int i = 0; i < eras.size(); i++) {
            if (eras.get(i).untilYear != null && untilInstant(eras.get(i)) > t) {
                return i;
            }
        }
        return eras.size() - 1;
    }

    State at(long t) {
        Era era = eras.get(eraAt(t));
        int save = era.own;
        String letters = "";
        for (int i = 0; i < of(era).size(); i++) {
            if (firingInstant(era, i) <= t) {
                save = of(era).get(i).rule.save;
                letters = of(era).get(i).rule.letters;
            }
        }
        int offset = era.off + save;
        return new State(offset, save != 0, name(era.format, save, offset, letters));
    }

    private static String name(String format, int save, int offset, String letters) {
        String name = format;
        if (format.contains("/")) {
            name = save == 0 ? format.replaceAll("/.*", "") : format.replaceAll(".*/", "");
        } else if (format.equals("%z")) {
            int a = Math.abs(offset);
            name = String.format("%s%02d", offset < 0 ? "-" : "+", a / 3600);
            if (a / 60 % 60 != 0) {
                name = name + String.format("%02d", a / 60 % 60);
            }
        } else if (format.contains("%s")) {
            name = format.replace("%s", letters);
        }
        return name.length() > 8 ? name.substring(0, 8) : name;
    }

    /** Every instant at which anything could change. */
    TreeSet<Long> edges() {
        TreeSet<Long> edges = new TreeSet<>();
        for (Era era : eras) {
            if (era.untilYear != null) {
                edges.add(untilInstant(era));
            }
            for (int i = 0; i < of(era).size(); i++) {
                edges.add(firingInstant(era, i));
            }
        }
        return edges;
    }

    List<Long> shown(long local) {
        List<Long> all = new ArrayList<>();
        if (eras.isEmpty() || local < -1000000000000000L || local > 1000000000000000L) {
            return all;
        }
        TreeSet<Long> edges = edges();
        // Only near the local time can the offset matter; further out the segments are all alike.
        TreeSet<Long> near = new TreeSet<>(edges.subSet(local - 200000, local + 200000));
        near.add(local - 200000);
        for (long from : near) {
            Long to = near.higher(from);
            long instant = local - at(from).offset;
            if (instant >= from && (to == null || instant < to)) {
                all.add(instant);
            }
        }
        return all;
    }

    record Compiled(byte[] bytes, List<Long> changes, List<Integer> typeOf, List<State> types) { }

    Object compile() {
        if (eras.isEmpty() || eras.get(eras.size() - 1).untilYear != null) {
            return Check.ISE;
        }
        List<Long> changes = new ArrayList<>();
        List<Integer> typeOf = new ArrayList<>();
        List<State> types = new ArrayList<>();
        types.add(at(-2147483648L));
        for (long t : edges()) {
            State now = at(t);
            if (t >= -2147483647L && t <= 2147483647L && !now.equals(at(t - 1))) {
                if (!types.contains(now)) {
                    types.add(now);
                }
                changes.add(t);
                typeOf.add(types.indexOf(now));
            }
        }
        java.nio.ByteBuffer b = java.nio.ByteBuffer.allocate(3 + 5 * changes.size() + 13 * types.size());
        b.putShort((short) changes.size());
        changes.forEach(t -> b.putInt((int) (long) t));
        typeOf.forEach(t -> b.put((byte) (int) t));
        b.put((byte) types.size());
        for (State s : types) {
            b.putInt(s.offset).put((byte) (s.saves ? 1 : 0));
            b.put(Arrays.copyOf(s.name.getBytes(java.nio.charset.StandardCharsets.US_ASCII), 8));
        }
        return new Compiled(b.array(), changes, typeOf, types);
    }

    String date(long t) {
        if (Math.abs((double) t) > 1e13) {
            return "";
        }
        int offset = eras.isEmpty() ? 0 : at(t).offset;
        LocalDateTime d = LocalDateTime.ofEpochSecond(t + offset, 0, ZoneOffset.UTC);
        if (d.getYear() < 0 || d.getYear() > 9999) {
            return "";
        }
        int minutes = offset / 60;
        return String.format("%04d-%02d-%02dT%02d:%02d:%02d%s%02d:%02d", d.getYear(), d.getMonthValue(),
            d.getDayOfMonth(), d.getHour(), d.getMinute(), d.getSecond(), minutes < 0 ? "-" : "+",
            Math.abs(minutes) / 60, Math.abs(minutes) % 60);
    }

    static Object read(String text) {
        Matcher m = DATE.matcher(text);
        if (!m.matches()) {
            return Check.IAE;
        }
        int[] n = new int[10];
        for (int i = 1; i <= 9; i++) {
            n[i] = i == 7 ? 0 : Integer.parseInt(m.group(i));
        }
        try {
            long local = LocalDateTime.of(n[1], n[2], n[3], n[4], n[5], n[6]).toEpochSecond(ZoneOffset.UTC);
            if (n[8] > 24 || n[9] > 59) {
                return Check.IAE;
            }
            return local - (m.group(7).equals("-") ? -1 : 1) * (n[8] * 3600 + n[9] * 60);
        } catch (java.time.DateTimeException e) {
            return Check.IAE;
        }
    }
}
