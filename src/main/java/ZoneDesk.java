import java.util.NoSuchElementException;

/**
 * A compiler of rules for clocks and its clock: lines of rules and eras are read, what holds at an
 * instant is looked up by the rules themselves and in a compiled row of bytes, local times are led
 * back to the instants that show them, and dates are written and read.
 */
public final class ZoneDesk {
    private static final int DRAFT_LIMIT = 60;
    private static final int SET_COUNT = 3;
    private static final int RULE_LIMIT = 6;
    private static final int ERA_LIMIT = 4;
    private static final int FIRST_YEAR = 1970;
    private static final int LAST_YEAR = 2037;
    private static final long DAY_SECONDS = 86400L;
    private static final long LOCAL_LIMIT = 1000000000000000L;
    private static final int NO_SET = -1;

    // Below every number that a word can stand for (a time is never below -24:59:59).
    private static final int BAD = -1000000;

    // Far before the first instant that a date can name.
    private static final long NO_INSTANT = -4000000000000000000L;

    // An offset and a save are at most 24:59:59 each, so no instant lies further from its nominal time.
    private static final long REACH = 179998L;

    // Each era can show at most the offset without a rule and one for each rule of its set.
    private static final int SHOWN_LIMIT = ERA_LIMIT * (RULE_LIMIT + 1);

    // The instants just before and just behind those that may be changes.
    private static final long BEFORE_CHANGES = -2147483648L;
    private static final long BEHIND_CHANGES = 2147483648L;

    private final StringBuilder draft = new StringBuilder();
    private final RuleSet[] sets = new RuleSet[SET_COUNT];
    private final Era[] eraRow = new Era[ERA_LIMIT];
    private int eraCount;
    private final Held held = new Held();
    private final Image compiled = new Image();
    private final long[] found = new long[SHOWN_LIMIT];
    private int foundCount;

    public ZoneDesk() {
        for (int i = 0; i < SET_COUNT; i++) {
            sets[i] = new RuleSet();
        }
    }

    public boolean write(char c) {
        if (c < 32 || c > 126 || draft.length() >= DRAFT_LIMIT) {
            return false;
        }
        draft.append(c);
        return true;
    }

    public int line() throws IllegalArgumentException, IllegalStateException {
        Line words = new Line(takeDraft());
        if (words.count == 0) {
            return 0;
        }
        Rule rule = Rule.parse(words);
        if (rule != null) {
            if (!sets[rule.set].add(rule)) {
                throw new IllegalStateException();
            }
            return 1;
        }
        Era era = Era.parse(words);
        if (era == null) {
            throw new IllegalArgumentException();
        }
        if (!addEra(era)) {
            throw new IllegalStateException();
        }
        return 2;
    }

    public int rules(int set) {
        return set < 0 || set >= SET_COUNT ? -1 : sets[set].ruleCount;
    }

    public int eras() {
        return eraCount;
    }

    public int holds(long instant, int what) throws IllegalStateException, IllegalArgumentException {
        if (eraCount == 0) {
            throw new IllegalStateException();
        }
        if (what < 0 || what > 2) {
            throw new IllegalArgumentException();
        }
        int number = eraNumberAt(instant);
        if (what == 2) {
            return number;
        }
        Era era = eraRow[number];
        Rule rule = ruleAt(era, instant);
        if (what == 0) {
            return era.offsetUnder(rule);
        }
        return era.saveUnder(rule) != 0 ? 1 : 0;
    }

    public int letter(long instant, int i) {
        if (eraCount == 0) {
            return -1;
        }
        Era era = eraRow[eraNumberAt(instant)];
        held.take(era, ruleAt(era, instant));
        return held.nameCharacter(i);
    }

    public int shown(long local) {
        findInstants(local);
        return foundCount;
    }

    public long instant(long local, int k) throws NoSuchElementException {
        findInstants(local);
        if (k < 0 || k >= foundCount) {
            throw new NoSuchElementException();
        }
        return found[k];
    }

    public int compile() throws IllegalStateException {
        if (eraCount == 0 || eraRow[eraCount - 1].hasUntil) {
            throw new IllegalStateException();
        }
        compiled.begin();
        long start = BEFORE_CHANGES;
        for (int i = 0; i < eraCount; i++) {
            long end = i == eraCount - 1 ? BEHIND_CHANGES : untilInstant(eraRow[i]);
            // An era that ends no later than one before it is never the first whose UNTIL is above.
            if (end > start) {
                compileEra(eraRow[i], start, end);
                start = end;
            }
        }
        compiled.finish();
        return compiled.changeCount;
    }

    public int bytes() {
        return compiled.length;
    }

    public int image(int i) {
        return i < 0 || i >= compiled.length ? -1 : compiled.row[i] & 255;
    }

    public int look(long instant, int what) throws IllegalStateException, IllegalArgumentException {
        if (compiled.length == 0) {
            throw new IllegalStateException();
        }
        if (what < 0 || what > 3) {
            throw new IllegalArgumentException();
        }
        int type = compiled.typeAt(instant);
        if (what == 0) {
            return compiled.offsetOf(type);
        }
        if (what == 1) {
            return compiled.saveFlagOf(type);
        }
        return what == 2 ? type : compiled.steps;
    }

    public int date(long instant, int i) {
        // Beyond this no year is 0 .. 9999, and the offset could no longer be added safely.
        if (instant < -LOCAL_LIMIT || instant > LOCAL_LIMIT) {
            return -1;
        }
        return DateText.character(instant, eraCount == 0 ? 0 : offsetAt(instant), i);
    }

    public long read() throws IllegalArgumentException {
        long instant = DateText.instantOf(takeDraft());
        if (instant == NO_INSTANT) {
            throw new IllegalArgumentException();
        }
        return instant;
    }

    public int weekday(long local) {
        return Calendar.weekdayOf(Math.floorDiv(local, DAY_SECONDS));
    }

    public void clear() {
        for (int i = 0; i < SET_COUNT; i++) {
            sets[i].empty();
        }
        eraCount = 0;
        compiled.length = 0;
    }

    private String takeDraft() {
        String text = draft.toString();
        draft.setLength(0);
        return text;
    }

    private boolean addEra(Era era) {
        if (eraCount >= ERA_LIMIT || (eraCount > 0 && !eraRow[eraCount - 1].hasUntil)) {
            return false;
        }
        eraRow[eraCount] = era;
        eraCount++;
        return true;
    }

    /** Asked anew each time, since rules may be added behind the era that they end. */
    private long untilInstant(Era era) {
        int save = era.set == NO_SET ? era.ownSave : sets[era.set].saveByNominal(era.until);
        return era.untilClock.toInstant(era.until, era.off, save);
    }

    /** Asked only when there is an era. */
    private int eraNumberAt(long instant) {
        for (int i = 0; i < eraCount - 1; i++) {
            if (untilInstant(eraRow[i]) > instant) {
                return i;
            }
        }
        return eraCount - 1;
    }

    /** The rule whose save and letters hold; null when none has fired or the era has no set. */
    private Rule ruleAt(Era era, long instant) {
        if (era.set == NO_SET) {
            return null;
        }
        RuleSet set = sets[era.set];
        return set.ruleOf(set.lastFiring(instant, era.off));
    }

    private int offsetAt(long instant) {
        Era era = eraRow[eraNumberAt(instant)];
        return era.offsetUnder(ruleAt(era, instant));
    }

    private void findInstants(long local) {
        foundCount = 0;
        if (local < -LOCAL_LIMIT || local > LOCAL_LIMIT) {
            return;
        }
        for (int i = 0; i < eraCount; i++) {
            Era era = eraRow[i];
            tryOffset(local, era.offsetUnder(null));
            int rulesThere = era.set == NO_SET ? 0 : sets[era.set].ruleCount;
            for (int r = 0; r < rulesThere; r++) {
                tryOffset(local, era.offsetUnder(sets[era.set].ruleRow[r]));
            }
        }
    }

    private void tryOffset(long local, int offset) {
        long candidate = local - offset;
        if (offsetAt(candidate) == offset) {
            keepInOrder(candidate);
        }
    }

    private void keepInOrder(long candidate) {
        int place = 0;
        while (place < foundCount && found[place] < candidate) {
            place++;
        }
        boolean there = place < foundCount && found[place] == candidate;
        if (there || foundCount >= SHOWN_LIMIT) {
            return;
        }
        for (int i = foundCount; i > place; i--) {
            found[i] = found[i - 1];
        }
        found[place] = candidate;
        foundCount++;
    }

    /** Notes what comes while an era lasts, from start up to just before end. */
    private void compileEra(Era era, long start, long end) {
        held.take(era, ruleAt(era, start));
        compiled.note(start, held);
        if (era.set == NO_SET) {
            return;
        }
        RuleSet set = sets[era.set];
        for (int i = 0; i < set.firingCount; i++) {
            long at = set.instantOf(i, era.off);
            // A firing that a later one has overtaken by its instant never holds.
            if (at > start && at < end && set.lastFiring(at, era.off) == i) {
                held.take(era, set.ruleOf(i));
                compiled.note(at, held);
            }
        }
    }

    /** The Gregorian calendar in days from the first day of 1970 on. */
    private static final class Calendar {
        private static final int CYCLE_DAYS = 146097;
        private static final int CYCLE_YEARS = 400;
        // From the first of March of year 0, with which a cycle of 400 years begins here, to 1970.
        private static final int DAYS_TO_1970 = 719468;

        private Calendar() {
        }

        static int weekdayOf(long days) {
            return (int) Math.floorMod(days + 4L, 7L);
        }

        static int monthLength(int year, int month) {
            if (month == 2) {
                boolean leap = year % 4 == 0 && (year % 100 != 0 || year % 400 == 0);
                return leap ? 29 : 28;
            }
            return month == 4 || month == 6 || month == 9 || month == 11 ? 30 : 31;
        }

        /** Years are taken from March on, so that the leap day is the last one of its year. */
        static long daysOf(int year, int month, int day) {
            int marchYear = month <= 2 ? year - 1 : year;
            int monthFromMarch = month <= 2 ? month + 9 : month - 3;
            int cycle = Math.floorDiv(marchYear, CYCLE_YEARS);
            int yearInCycle = marchYear - cycle * CYCLE_YEARS;
            int dayInYear = (153 * monthFromMarch + 2) / 5 + day - 1;
            int dayInCycle = yearInCycle * 365 + yearInCycle / 4 - yearInCycle / 100 + dayInYear;
            return (long) cycle * CYCLE_DAYS + dayInCycle - DAYS_TO_1970;
        }

        /** The date as the number yyyymmdd, for years 0 .. 9999. */
        static long dateNumber(long days) {
            long fromMarch = days + DAYS_TO_1970;
            long cycle = Math.floorDiv(fromMarch, (long) CYCLE_DAYS);
            int dayInCycle = (int) (fromMarch - cycle * CYCLE_DAYS);
            int yearInCycle =
                    (dayInCycle - dayInCycle / 1460 + dayInCycle / 36524 - dayInCycle / 146096) / 365;
            int dayInYear = dayInCycle - (365 * yearInCycle + yearInCycle / 4 - yearInCycle / 100);
            int monthFromMarch = (5 * dayInYear + 2) / 153;
            int day = dayInYear - (153 * monthFromMarch + 2) / 5 + 1;
            int month = monthFromMarch < 10 ? monthFromMarch + 3 : monthFromMarch - 9;
            long year = cycle * CYCLE_YEARS + yearInCycle + (month <= 2 ? 1 : 0);
            return year * 10000L + month * 100L + day;
        }
    }

    /** Dates as texts: d stands for a digit, + for the sign of the offset. */
    private static final class DateText {
        private static final String PATTERN = "dddd-dd-ddTdd:dd:dd+dd:dd";
        private static final long FIRST_LOCAL = -62167219200L;
        private static final long LAST_LOCAL = 253402300799L;

        private DateText() {
        }

        static int character(long instant, int offset, int i) {
            long local = instant + offset;
            if (i < 0 || i >= PATTERN.length() || local < FIRST_LOCAL || local > LAST_LOCAL) {
                return -1;
            }
            char kind = PATTERN.charAt(i);
            int minutes = offset / 60;
            if (kind == '+') {
                return minutes < 0 ? '-' : '+';
            }
            if (kind != 'd') {
                return kind;
            }
            long digits = digitsOf(local, Math.abs(minutes));
            for (int later = i + 1; later < PATTERN.length(); later++) {
                if (PATTERN.charAt(later) == 'd') {
                    digits /= 10L;
                }
            }
            return (int) ('0' + digits % 10L);
        }

        /** All eighteen digits of a date as one number. */
        private static long digitsOf(long local, int offsetMinutes) {
            long days = Math.floorDiv(local, DAY_SECONDS);
            int second = (int) (local - days * DAY_SECONDS);
            int clock = second / 3600 * 10000 + second / 60 % 60 * 100 + second % 60;
            int zone = offsetMinutes / 60 * 100 + offsetMinutes % 60;
            return (Calendar.dateNumber(days) * 1000000L + clock) * 10000L + zone;
        }

        /** NO_INSTANT when the text is no date. */
        static long instantOf(String text) {
            if (text.length() != PATTERN.length()) {
                return NO_INSTANT;
            }
            long digits = 0L;
            boolean below = false;
            for (int i = 0; i < PATTERN.length(); i++) {
                char kind = PATTERN.charAt(i);
                char c = text.charAt(i);
                if (!fits(kind, c)) {
                    return NO_INSTANT;
                }
                if (kind == 'd') {
                    digits = digits * 10L + (c - '0');
                } else if (kind == '+') {
                    below = c == '-';
                }
            }
            return instantOfDigits(digits, below);
        }

        private static boolean fits(char kind, char c) {
            if (kind == 'd') {
                return c >= '0' && c <= '9';
            }
            return kind == c || (kind == '+' && c == '-');
        }

        private static long instantOfDigits(long digits, boolean below) {
            int offsetHours = (int) (digits / 100L % 100L);
            int offsetMinutes = (int) (digits % 100L);
            long days = daysOfNumber((int) (digits / 10000000000L));
            int clock = secondsOfNumber((int) (digits / 10000L % 1000000L));
            if (offsetHours > 24 || offsetMinutes > 59 || days == NO_INSTANT || clock == BAD) {
                return NO_INSTANT;
            }
            int offset = offsetHours * 3600 + offsetMinutes * 60;
            return days * DAY_SECONDS + clock - (below ? -offset : offset);
        }

        /** The days up to a date yyyymmdd; NO_INSTANT when there is no such date. */
        private static long daysOfNumber(int number) {
            int year = number / 10000;
            int month = number / 100 % 100;
            int day = number % 100;
            if (month < 1 || month > 12 || day < 1 || day > Calendar.monthLength(year, month)) {
                return NO_INSTANT;
            }
            return Calendar.daysOf(year, month, day);
        }

        /** The seconds of a time hhmmss; BAD when there is no such time. */
        private static int secondsOfNumber(int number) {
            int hour = number / 10000;
            int minute = number / 100 % 100;
            int second = number % 100;
            return hour > 23 || minute > 59 || second > 59 ? BAD : hour * 3600 + minute * 60 + second;
        }
    }

    /** A line cut into its words. */
    private static final class Line {
        private static final int WORD_LIMIT = 9;

        private final String text;
        private final int[] starts = new int[WORD_LIMIT];
        private final int[] ends = new int[WORD_LIMIT];
        // Counts the words behind the ninth too: a line with so many must be told from a rule.
        final int count;

        Line(String text) {
            this.text = text;
            int words = 0;
            for (int i = 0; i < text.length(); i++) {
                if (text.charAt(i) == ' ') {
                    continue;
                }
                if (i == 0 || text.charAt(i - 1) == ' ') {
                    words++;
                    if (words <= WORD_LIMIT) {
                        starts[words - 1] = i;
                    }
                }
                if (words <= WORD_LIMIT) {
                    ends[words - 1] = i + 1;
                }
            }
            count = words;
        }

        String wordOr(int i, String missing) {
            if (i < 0 || i >= count || i >= WORD_LIMIT) {
                return missing;
            }
            return text.substring(starts[i], ends[i]);
        }

        String word(int i) {
            return wordOr(i, "");
        }
    }

    /** What single words stand for; BAD where a word is none of the kind. */
    private static final class Word {
        // Names stand in columns of equal width; no word has a blank, so none reaches the padding.
        private static final int NAME_WIDTH = 10;
        private static final String MONTHS =
                "January   February  March     April     May       June      July      August    September October   November  December  ";
        private static final String WEEKDAYS =
                "Sunday    Monday    Tuesday   Wednesday Thursday  Friday    Saturday  ";

        private Word() {
        }

        /** One or two digits, at most a highest number, in a part of a word. */
        static int number(String word, int from, int to, int highest) {
            int length = to - from;
            if (from < 0 || to > word.length() || length < 1 || length > 2) {
                return BAD;
            }
            int value = digits(word, from, to);
            return value > highest ? BAD : value;
        }

        /** Asked only for few digits that lie in the word. */
        private static int digits(String word, int from, int to) {
            int value = 0;
            for (int i = from; i < to; i++) {
                char c = word.charAt(i);
                if (c < '0' || c > '9') {
                    return BAD;
                }
                value = value * 10 + (c - '0');
            }
            return value;
        }

        static int time(String word) {
            int first = !word.isEmpty() && word.charAt(0) == '-' ? 1 : 0;
            int colon = word.indexOf(':');
            int hoursEnd = colon < 0 ? word.length() : colon;
            int rest = word.length() - hoursEnd;
            if (rest != 0 && rest != 3 && rest != 6) {
                return BAD;
            }
            int hours = number(word, first, hoursEnd, 24);
            int minutes = rest == 0 ? 0 : sixtieths(word, hoursEnd);
            int seconds = rest < 6 ? 0 : sixtieths(word, hoursEnd + 3);
            if (hours == BAD || minutes == BAD || seconds == BAD) {
                return BAD;
            }
            int value = hours * 3600 + minutes * 60 + seconds;
            return first == 1 ? -value : value;
        }

        /** The colon and the two digits that stand at a place. */
        private static int sixtieths(String word, int at) {
            if (at + 3 > word.length() || word.charAt(at) != ':') {
                return BAD;
            }
            int value = digits(word, at + 1, at + 3);
            return value > 59 ? BAD : value;
        }

        static int year(String word) {
            int value = word.length() == 4 ? digits(word, 0, 4) : BAD;
            return value < FIRST_YEAR || value > LAST_YEAR ? BAD : value;
        }

        /** From 1 on. */
        static int month(String word) {
            int place = placeOfOnly(MONTHS, word);
            return place == BAD ? BAD : place + 1;
        }

        /** From 0, Sunday, on. */
        static int dayName(String word) {
            return placeOfOnly(WEEKDAYS, word);
        }

        static int set(String word) {
            int value = word.length() == 1 ? digits(word, 0, 1) : BAD;
            return value >= SET_COUNT ? BAD : value;
        }

        /** The place of the one name that a word begins; BAD when there are more, or none. */
        private static int placeOfOnly(String names, String word) {
            int place = BAD;
            for (int at = 0; at < names.length(); at += NAME_WIDTH) {
                if (begins(names, at, word)) {
                    if (place != BAD) {
                        return BAD;
                    }
                    place = at / NAME_WIDTH;
                }
            }
            return place;
        }

        private static boolean begins(String names, int at, String word) {
            int length = word.length();
            if (length == 0 || length > NAME_WIDTH || at + length > names.length()) {
                return false;
            }
            for (int i = 0; i < length; i++) {
                if (names.charAt(at + i) != word.charAt(i)) {
                    return false;
                }
            }
            return true;
        }
    }

    /** The DAY of a rule or of an UNTIL. */
    private static final class Day {
        private static final int NUMBER = 0;
        private static final int LAST = 1;
        private static final int FROM = 2;
        private static final int UP_TO = 3;

        private final int form;
        private final int weekday;
        private final int number;

        private Day(int form, int weekday, int number) {
            this.form = form;
            this.weekday = weekday;
            this.number = number;
        }

        /** Null when the word is no DAY. */
        static Day parse(String word) {
            if (word.length() > 4 && word.substring(0, 4).equals("last")) {
                return checked(LAST, Word.dayName(word.substring(4)), 1);
            }
            int sign = word.indexOf('=') - 1;
            if (sign < 0) {
                return checked(NUMBER, 0, Word.number(word, 0, word.length(), 31));
            }
            char direction = word.charAt(sign);
            if (direction != '>' && direction != '<') {
                return null;
            }
            int weekday = Word.dayName(word.substring(0, sign));
            int number = Word.number(word, sign + 2, word.length(), 31);
            return checked(direction == '>' ? FROM : UP_TO, weekday, number);
        }

        private static Day checked(int form, int weekday, int number) {
            return weekday == BAD || number < 1 ? null : new Day(form, weekday, number);
        }

        /** In days from 1970 on, so that a day beyond its month's edges needs no care. */
        long dayIn(int year, int month) {
            int named = form == LAST ? Calendar.monthLength(year, month) : number;
            long day = Calendar.daysOf(year, month, 1) + named - 1L;
            if (form == NUMBER) {
                return day;
            }
            int ahead = Math.floorMod(weekday - Calendar.weekdayOf(day), 7);
            if (form == FROM || ahead == 0) {
                return day + ahead;
            }
            return day + ahead - 7L;
        }
    }

    /** The CLOCK of a rule or of an UNTIL. */
    private static final class Clock {
        private static final int WALL = 0;
        private static final int STANDARD = 1;
        private static final int UNIVERSAL = 2;

        final int seconds;
        private final int base;

        private Clock(int seconds, int base) {
            this.seconds = seconds;
            this.base = base;
        }

        /** Null when the word is no CLOCK. */
        static Clock parse(String word) {
            int last = word.length() - 1;
            int base = last < 0 ? BAD : baseOf(word.charAt(last));
            int seconds = Word.time(base == BAD ? word : word.substring(0, last));
            if (seconds < 0) {
                return null;
            }
            return new Clock(seconds, base == BAD ? WALL : base);
        }

        private static int baseOf(char c) {
            if (c == 'w') {
                return WALL;
            }
            if (c == 's') {
                return STANDARD;
            }
            return c == 'u' || c == 'g' || c == 'z' ? UNIVERSAL : BAD;
        }

        long toInstant(long nominal, int off, int save) {
            if (base == UNIVERSAL) {
                return nominal;
            }
            return base == STANDARD ? nominal - off : nominal - off - save;
        }
    }

    private static final class Rule {
        private static final int WORDS = 9;

        final int set;
        final int from;
        final int to;
        private final int month;
        private final Day day;
        final Clock clock;
        final int save;
        final String letters;

        private Rule(Line words, int from, int to, Day day, Clock clock) {
            this.set = Word.set(words.word(1));
            this.from = from;
            this.to = to;
            this.month = Word.month(words.word(4));
            this.day = day;
            this.clock = clock;
            this.save = Word.time(words.word(7));
            this.letters = words.word(8).equals("-") ? "" : words.word(8);
        }

        /** Null when the line is no rule. */
        static Rule parse(Line words) {
            if (words.count != WORDS || !words.word(0).equals("R")) {
                return null;
            }
            int from = Word.year(words.word(2));
            int to = lastYear(words.word(3), from);
            Day day = Day.parse(words.word(5));
            Clock clock = Clock.parse(words.word(6));
            if (from == BAD || to == BAD || to < from || day == null || clock == null) {
                return null;
            }
            Rule rule = new Rule(words, from, to, day, clock);
            return rule.isWhole() ? rule : null;
        }

        private static int lastYear(String word, int from) {
            if (word.equals("only")) {
                return from;
            }
            return word.equals("max") ? LAST_YEAR : Word.year(word);
        }

        private boolean isWhole() {
            return set != BAD && month != BAD && save != BAD && letters.length() <= 3;
        }

        long nominalIn(int year) {
            return day.dayIn(year, month) * DAY_SECONDS + clock.seconds;
        }
    }

    /** The rules of a set and their firings, kept in order. */
    private static final class RuleSet {
        private static final int FIRING_LIMIT = RULE_LIMIT * (LAST_YEAR - FIRST_YEAR + 1);
        // A firing is its nominal time with the place of its rule in the lowest bits: numbers in
        // rising order are then firings in order.
        private static final int RULE_BITS = 3;
        private static final int RULE_MASK = 7;

        final Rule[] ruleRow = new Rule[RULE_LIMIT];
        int ruleCount;
        private final long[] firings = new long[FIRING_LIMIT];
        int firingCount;

        void empty() {
            ruleCount = 0;
            firingCount = 0;
        }

        /** False when the set is full. */
        boolean add(Rule rule) {
            if (ruleCount >= RULE_LIMIT) {
                return false;
            }
            mergeFirings(rule);
            ruleRow[ruleCount] = rule;
            ruleCount++;
            return true;
        }

        /** From the end on, so that the firings there make room in the same row. */
        private void mergeFirings(Rule rule) {
            int old = firingCount - 1;
            int year = rule.to;
            firingCount = firingCount + rule.to - rule.from + 1;
            long next = firingIn(rule, year);
            for (int i = firingCount - 1; i >= 0 && year >= rule.from; i--) {
                if (old >= 0 && firings[old] > next) {
                    firings[i] = firings[old];
                    old--;
                } else {
                    firings[i] = next;
                    year--;
                    next = firingIn(rule, year);
                }
            }
        }

        private long firingIn(Rule rule, int year) {
            return (rule.nominalIn(year) << RULE_BITS) + ruleCount;
        }

        /** Null when there is no such firing. */
        Rule ruleOf(int firing) {
            if (firing < 0 || firing >= firingCount) {
                return null;
            }
            int place = (int) (firings[firing] & RULE_MASK);
            return place < ruleCount ? ruleRow[place] : null;
        }

        /** The instant of a firing in an era with an offset. */
        long instantOf(int firing, int off) {
            Rule rule = ruleOf(firing);
            if (rule == null) {
                return NO_INSTANT;
            }
            Rule before = ruleOf(firing - 1);
            return rule.clock.toInstant(firings[firing] >> RULE_BITS, off, before == null ? 0 : before.save);
        }

        /** How many firings have a nominal time that is at most so far behind a limit. */
        private int countUpTo(long limit, long reach) {
            int low = 0;
            int high = firingCount;
            while (low < high) {
                int middle = (low + high) / 2;
                if ((firings[middle] >> RULE_BITS) - reach <= limit) {
                    low = middle + 1;
                } else {
                    high = middle;
                }
            }
            return low;
        }

        /** The save of the last firing whose nominal time is not above a nominal time. */
        int saveByNominal(long nominal) {
            Rule rule = ruleOf(countUpTo(nominal, 0L) - 1);
            return rule == null ? 0 : rule.save;
        }

        /** The last firing in order whose instant is not above one; -1 when there is none. */
        int lastFiring(long instant, int off) {
            int firing = countUpTo(instant, REACH) - 1;
            while (firing >= 0 && instantOf(firing, off) > instant) {
                firing--;
            }
            return firing;
        }
    }

    private static final class Era {
        private static final int FEWEST_WORDS = 4;
        private static final int MOST_WORDS = 8;
        private static final int FORMAT_LIMIT = 8;

        final int off;
        // NO_SET where the era's own save holds.
        final int set;
        final int ownSave;
        final String format;
        final boolean hasUntil;
        // The nominal time.
        final long until;
        final Clock untilClock;

        private Era(Line words, long until, Clock untilClock) {
            String saves = words.word(2);
            boolean bySet = Word.set(saves) != BAD;
            this.off = Word.time(words.word(1));
            this.set = bySet ? Word.set(saves) : NO_SET;
            this.ownSave = bySet || saves.equals("-") ? 0 : timeWithColon(saves);
            this.format = words.word(3);
            this.hasUntil = words.count > FEWEST_WORDS;
            this.until = until;
            this.untilClock = untilClock;
        }

        /** Null when the line is no era. */
        static Era parse(Line words) {
            int count = words.count;
            if (count < FEWEST_WORDS || count > MOST_WORDS || !words.word(0).equals("Z")) {
                return null;
            }
            int year = Word.year(words.wordOr(4, "1970"));
            int month = Word.month(words.wordOr(5, "January"));
            Day day = Day.parse(words.wordOr(6, "1"));
            Clock clock = Clock.parse(words.wordOr(7, "0"));
            if (year == BAD || month == BAD || day == null || clock == null) {
                return null;
            }
            long until = day.dayIn(year, month) * DAY_SECONDS + clock.seconds;
            Era era = new Era(words, until, clock);
            return era.isWhole() ? era : null;
        }

        /** A single digit must stay the name of a set, so a save needs its colon. */
        private static int timeWithColon(String word) {
            return word.indexOf(':') < 0 ? BAD : Word.time(word);
        }

        private boolean isWhole() {
            return off != BAD && ownSave != BAD && isFormat(format);
        }

        private static boolean isFormat(String word) {
            if (word.isEmpty() || word.length() > FORMAT_LIMIT) {
                return false;
            }
            int marks = 0;
            for (int i = 0; i < word.length(); i++) {
                if (word.charAt(i) == '/' || word.charAt(i) == '%') {
                    marks++;
                }
            }
            int percent = word.indexOf('%');
            if (marks == 0 || (marks == 1 && percent < 0) || word.equals("%z")) {
                return true;
            }
            return marks == 1 && percent + 1 < word.length() && word.charAt(percent + 1) == 's';
        }

        int saveUnder(Rule rule) {
            if (set == NO_SET) {
                return ownSave;
            }
            return rule == null ? 0 : rule.save;
        }

        int offsetUnder(Rule rule) {
            return off + saveUnder(rule);
        }
    }

    /** What holds, as the bytes of a type in the image: alike bytes are alike in all that counts. */
    private static final class Held {
        private static final int SIZE = 13;
        private static final int FLAG_AT = 4;
        private static final int NAME_AT = 5;

        final byte[] row = new byte[SIZE];
        private int end;

        void take(Era era, Rule rule) {
            int save = era.saveUnder(rule);
            int offset = era.offsetUnder(rule);
            Image.putInt(row, 0, offset);
            row[FLAG_AT] = (byte) (save != 0 ? 1 : 0);
            end = NAME_AT;
            addName(era.format, save, offset, rule == null ? "" : rule.letters);
            for (int i = end; i < SIZE; i++) {
                row[i] = 0;
            }
        }

        /** -1 when the name has no such character. */
        int nameCharacter(int i) {
            if (i < 0 || i >= SIZE - NAME_AT || row[NAME_AT + i] == 0) {
                return -1;
            }
            return row[NAME_AT + i];
        }

        private void addName(String format, int save, int offset, String letters) {
            int length = format.length();
            int slash = format.indexOf('/');
            int percent = format.indexOf('%');
            if (slash >= 0) {
                addPart(format, save == 0 ? 0 : slash + 1, save == 0 ? slash : length);
            } else if (percent < 0) {
                addPart(format, 0, length);
            } else if (format.equals("%z")) {
                addOffset(offset);
            } else {
                addPart(format, 0, percent);
                addPart(letters, 0, letters.length());
                addPart(format, percent + 2, length);
            }
        }

        private void addPart(String text, int from, int to) {
            for (int i = from; i < to && i < text.length(); i++) {
                addCharacter(text.charAt(i));
            }
        }

        private void addOffset(int offset) {
            int minutes = Math.abs(offset) / 60;
            addCharacter(offset < 0 ? '-' : '+');
            addTwoDigits(minutes / 60);
            if (minutes % 60 != 0) {
                addTwoDigits(minutes % 60);
            }
        }

        private void addTwoDigits(int value) {
            addCharacter((char) ('0' + value / 10));
            addCharacter((char) ('0' + value % 10));
        }

        private void addCharacter(char c) {
            if (end < SIZE) {
                row[end] = (byte) c;
                end++;
            }
        }
    }

    /** The compiled row of bytes. */
    private static final class Image {
        // Eras share the time among them, and a rule fires again only after 361 days at the least:
        // 68 years and the three edges between eras give each of six rules 71 changes, 429 in all.
        private static final int CHANGE_LIMIT = 512;
        private static final int TYPE_LIMIT = SHOWN_LIMIT;
        private static final int COUNT_SIZE = 2;
        private static final int INSTANT_SIZE = 4;

        final byte[] row =
                new byte[COUNT_SIZE + CHANGE_LIMIT * (INSTANT_SIZE + 1) + 1 + TYPE_LIMIT * Held.SIZE];
        int length;
        int changeCount;
        int steps;
        // Where the types go in the row is known only when all changes are: till then they wait here.
        private final byte[] changeTypes = new byte[CHANGE_LIMIT];
        private final byte[] types = new byte[TYPE_LIMIT * Held.SIZE];
        private int typeCount;
        private int lastType;

        static void putInt(byte[] bytes, int at, int value) {
            if (at < 0 || at + 4 > bytes.length) {
                return;
            }
            bytes[at] = (byte) (value >> 24);
            bytes[at + 1] = (byte) (value >> 16);
            bytes[at + 2] = (byte) (value >> 8);
            bytes[at + 3] = (byte) value;
        }

        private int intAt(int at) {
            if (at < 0 || at + 4 > row.length) {
                return 0;
            }
            return (row[at] & 255) << 24 | (row[at + 1] & 255) << 16
                    | (row[at + 2] & 255) << 8 | (row[at + 3] & 255);
        }

        void begin() {
            changeCount = 0;
            typeCount = 0;
            lastType = -1;
        }

        /** Told in the order of the instants; the first is what holds before all changes. */
        void note(long instant, Held held) {
            int type = typeOf(held);
            if (lastType >= 0 && type != lastType && changeCount < CHANGE_LIMIT) {
                putInt(row, COUNT_SIZE + changeCount * INSTANT_SIZE, (int) instant);
                changeTypes[changeCount] = (byte) type;
                changeCount++;
            }
            lastType = type;
        }

        private int typeOf(Held held) {
            for (int type = 0; type < typeCount; type++) {
                if (isType(type, held)) {
                    return type;
                }
            }
            if (typeCount >= TYPE_LIMIT) {
                return lastType;
            }
            System.arraycopy(held.row, 0, types, typeCount * Held.SIZE, Held.SIZE);
            typeCount++;
            return typeCount - 1;
        }

        private boolean isType(int type, Held held) {
            for (int i = 0; i < Held.SIZE; i++) {
                if (types[type * Held.SIZE + i] != held.row[i]) {
                    return false;
                }
            }
            return true;
        }

        void finish() {
            row[0] = (byte) (changeCount >> 8);
            row[1] = (byte) changeCount;
            System.arraycopy(changeTypes, 0, row, changeTypesAt(), changeCount);
            row[typesAt() - 1] = (byte) typeCount;
            System.arraycopy(types, 0, row, typesAt(), typeCount * Held.SIZE);
            length = typesAt() + typeCount * Held.SIZE;
        }

        private int changeTypesAt() {
            return COUNT_SIZE + changeCount * INSTANT_SIZE;
        }

        private int typesAt() {
            return changeTypesAt() + changeCount + 1;
        }

        /** Leaves behind how many steps it took. */
        int typeAt(long instant) {
            int low = -1;
            int high = changeCount - 1;
            steps = 0;
            while (low < high) {
                int middle = (low + high + 1) / 2;
                if (intAt(COUNT_SIZE + middle * INSTANT_SIZE) <= instant) {
                    low = middle;
                } else {
                    high = middle - 1;
                }
                steps++;
            }
            return low < 0 ? 0 : row[changeTypesAt() + low];
        }

        int offsetOf(int type) {
            return intAt(typesAt() + type * Held.SIZE);
        }

        int saveFlagOf(int type) {
            return row[typesAt() + type * Held.SIZE + Held.FLAG_AT];
        }
    }
}
