import java.lang.reflect.Method;
import java.lang.reflect.Modifier;
import java.nio.file.Files;
import java.nio.file.Path;
import java.util.HashMap;
import java.util.Map;
import java.util.regex.Matcher;
import java.util.regex.Pattern;

/** The calls that README.md shows are answered as their comments begin, and every call of the face is named. */
public final class ReadmeTest {
    private static final Pattern CALL = Pattern.compile("cloth\\.(\\w+)\\(([^)]*)\\); +// (-?\\d+).*");
    private static final Pattern TOLD = Pattern.compile("tell\\(cloth, \"([^\"]*)\"\\); +// (-?\\d+).*");

    private final Check check = new Check();
    private final Map<String, Method> face = new HashMap<>();
    private final ExchequerCloth cloth = new ExchequerCloth();

    public static void main(String[] args) throws Exception {
        ReadmeTest test = new ReadmeTest();
        String page = Files.readString(Path.of("README.md"));
        for (Method m : ExchequerCloth.class.getDeclaredMethods()) {
            if (Modifier.isPublic(m.getModifiers())) {
                test.face.put(m.getName(), m);
                test.check.holds(m.getName() + " is named", page.contains("`" + m.getName() + "`"));
            }
        }
        int shown = 0;
        for (String line : page.split("\n")) {
            shown += test.play(line) ? 1 : 0;
        }
        test.check.holds("calls are shown", shown > 20);
        test.check.holds("how to run the tests", page.contains("bash .ci/run"));
        test.check.finish("ReadmeTest");
    }

    private boolean play(String line) throws Exception {
        Matcher told = TOLD.matcher(line);
        if (told.matches()) {
            check.due(line, Told.text(cloth, told.group(1)), Long.parseLong(told.group(2)));
            return true;
        }
        Matcher call = CALL.matcher(line);
        if (call.matches()) {
            check.due(line, answer(call.group(1), call.group(2)), Long.parseLong(call.group(3)));
            return true;
        }
        return false;
    }

    private long answer(String name, String arguments) throws Exception {
        Method called = face.get(name);
        String[] words = arguments.isEmpty() ? new String[0] : arguments.split(", ");
        Object[] values = new Object[words.length];
        for (int i = 0; i < words.length; i++) {
            boolean truth = called.getParameterTypes()[i] == boolean.class;
            values[i] = truth ? (Object) Boolean.valueOf(words[i]) : (Object) Integer.valueOf(words[i]);
        }
        return ((Number) called.invoke(cloth, values)).longValue();
    }
}
