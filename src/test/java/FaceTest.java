import java.lang.reflect.Method;
import java.lang.reflect.Modifier;
import java.util.Arrays;
import java.util.Set;
import java.util.TreeSet;

/** The face is the document's, and nothing else of the class can be seen. */
public final class FaceTest {
    private static final String[] FACE = {
        "public boolean ZoneDesk.write(char)",
        "public int ZoneDesk.line() throws java.lang.IllegalArgumentException,java.lang.IllegalStateException",
        "public int ZoneDesk.rules(int)",
        "public int ZoneDesk.eras()",
        "public int ZoneDesk.holds(long,int) throws java.lang.IllegalStateException,java.lang.IllegalArgumentException",
        "public int ZoneDesk.letter(long,int)",
        "public int ZoneDesk.shown(long)",
        "public long ZoneDesk.instant(long,int) throws java.util.NoSuchElementException",
        "public int ZoneDesk.compile() throws java.lang.IllegalStateException",
        "public int ZoneDesk.bytes()",
        "public int ZoneDesk.image(int)",
        "public int ZoneDesk.look(long,int) throws java.lang.IllegalStateException,java.lang.IllegalArgumentException",
        "public int ZoneDesk.date(long,int)",
        "public long ZoneDesk.read() throws java.lang.IllegalArgumentException",
        "public int ZoneDesk.weekday(long)",
        "public void ZoneDesk.clear()",
    };

    public static void main(String[] args) {
        Check check = new Check();
        Set<String> methods = new TreeSet<>();
        Set<String> publicNames = new TreeSet<>();
        for (Method method : ZoneDesk.class.getDeclaredMethods()) {
            if (!Modifier.isPrivate(method.getModifiers())) {
                methods.add(method.toGenericString());
                publicNames.add(method.getName());
            }
        }
        check.due("the methods", new TreeSet<>(Arrays.asList(FACE)), methods);
        check.due("the modifiers", Modifier.PUBLIC | Modifier.FINAL, ZoneDesk.class.getModifiers());
        check.due("the constructors", "[public ZoneDesk()]", Arrays.toString(ZoneDesk.class.getDeclaredConstructors()));
        Arrays.stream(ZoneDesk.class.getDeclaredFields())
            .forEach(f -> check.due(f + " is private", true, Modifier.isPrivate(f.getModifiers())));
        for (Class<?> inside : ZoneDesk.class.getDeclaredClasses()) {
            check.due(inside + " is static", true, Modifier.isStatic(inside.getModifiers()));
            for (Method method : inside.getDeclaredMethods()) {
                check.due(method + " bears a name of the face", false, publicNames.contains(method.getName()));
            }
        }
        check.due("few classes", true, ZoneDesk.class.getDeclaredClasses().length <= 12);
        check.finish();
    }
}
