import java.util.NoSuchElementException;
import java.util.Objects;

/** Counts the answers that are not the ones that are due, and tells them. */
final class Check {
    interface Call {
        Object answer();
    }

    static final String ISE = "throws.IllegalStateException";
    static final String IAE = "throws.IllegalArgumentException";
    static final String NSE = "throws.NoSuchElementException";

    private int wrong;
    private int asked;
    private String sentence = "";

    /** The sentence of the document that the answers from here on are due by. */
    void sentence(String text) {
        sentence = "\"" + text + "\": ";
    }

    void due(String what, Object want, Object got) {
        asked++;
        if (!Objects.equals(want, got)) {
            wrong++;
            if (wrong <= 50) {
                System.out.println(sentence + what + " answered " + got + ", due is " + want);
            }
        }
    }

    /** An exception becomes an answer of its own, so that calls can be compared by what they do. */
    static Object answerOf(Call call) {
        try {
            return call.answer();
        } catch (RuntimeException e) {
            return "throws." + e.getClass().getSimpleName();
        }
    }

    void due(String what, Object want, Call call) {
        due(what, want, answerOf(call));
    }

    void finish() {
        System.out.println(asked + " answers, " + wrong + " not as due");
        if (wrong != 0 || asked == 0) {
            System.exit(1);
        }
    }

    static void type(ZoneDesk desk, String text) {
        for (char c : text.toCharArray()) {
            desk.write(c);
        }
    }

    static Object line(ZoneDesk desk, String text) {
        type(desk, text);
        return answerOf(desk::line);
    }

    static Object read(ZoneDesk desk, String text) {
        type(desk, text);
        return answerOf(desk::read);
    }

    static ZoneDesk desk(String... lines) {
        ZoneDesk desk = new ZoneDesk();
        for (String text : lines) {
            Object answer = line(desk, text);
            if (!(answer instanceof Integer)) {
                throw new AssertionError("the test's own line is refused: " + text);
            }
        }
        return desk;
    }

    static String name(ZoneDesk desk, long instant) {
        StringBuilder name = new StringBuilder();
        for (int i = 0; i < 20 && desk.letter(instant, i) >= 0; i++) {
            name.append((char) desk.letter(instant, i));
        }
        return name.toString();
    }

    static String date(ZoneDesk desk, long instant) {
        StringBuilder text = new StringBuilder();
        for (int i = 0; i < 40 && desk.date(instant, i) >= 0; i++) {
            text.append((char) desk.date(instant, i));
        }
        return text.toString();
    }

    static byte[] image(ZoneDesk desk) {
        byte[] bytes = new byte[desk.bytes()];
        for (int i = 0; i < bytes.length; i++) {
            bytes[i] = (byte) desk.image(i);
        }
        return bytes;
    }

    /** What a desk answers on all that can be asked without its draft: alike for desks alike. */
    static String told(ZoneDesk desk, long... times) {
        StringBuilder all = new StringBuilder();
        for (int set = 0; set < 3; set++) {
            all.append(desk.rules(set)).append(' ');
        }
        all.append(desk.eras()).append(' ').append(java.util.Arrays.toString(image(desk)));
        for (long t : times) {
            for (int what = 0; what < 4; what++) {
                int asked = what;
                all.append(' ').append(answerOf(() -> desk.holds(t, asked)));
                all.append(' ').append(answerOf(() -> desk.look(t, asked)));
            }
            all.append(' ').append(name(desk, t)).append(' ').append(date(desk, t)).append(' ').append(desk.shown(t));
            for (int k = 0; k < desk.shown(t); k++) {
                all.append(' ').append(kth(desk, t, k));
            }
        }
        return all.toString();
    }

    static Object kth(ZoneDesk desk, long local, int k) {
        try {
            return desk.instant(local, k);
        } catch (NoSuchElementException e) {
            return NSE;
        }
    }

    /** The seconds of a date and time of day, written 2024-03-31T01:30:00. */
    static long at(String dateTime) {
        return java.time.LocalDateTime.parse(dateTime).toEpochSecond(java.time.ZoneOffset.UTC);
    }
}
