import java.lang.reflect.Method;
import java.nio.file.Files;
import java.nio.file.Path;
import java.util.Set;
import java.util.TreeSet;
import java.util.regex.Matcher;
import java.util.regex.Pattern;

/** The calls that README.md shows, each with the answer that it tells; run where README.md lies. */
public final class ReadmeTest {
    private static final String FENCE = "```";
    private static final String NEW_ROOM = "UnitRoom room = new UnitRoom();";
    private static final Pattern CALL = Pattern.compile("room\\.(\\w+)\\(([^)]*)\\); *// (\\S+)");

    private final Set<String> shown = new TreeSet<>();
    private boolean inCode = false;
    private UnitRoom room = null;

    public static void main(String[] args) throws Exception {
        ReadmeTest test = new ReadmeTest();
        for (String line : Files.readAllLines(Path.of("README.md"))) {
            test.take(line);
        }
        test.everyMethodIsShown();
        Check.finish();
    }

    private void take(String line) throws Exception {
        if (line.startsWith(FENCE)) {
            inCode = !inCode;
            room = null;
        } else if (inCode && line.equals(NEW_ROOM)) {
            room = new UnitRoom();
        } else if (inCode) {
            Matcher call = CALL.matcher(line);
            boolean isCall = room != null && call.matches();
            Check.due("a call on an object, with its answer: " + line, isCall, true);
            if (isCall) {
                make(call.group(1), call.group(2), call.group(3));
            }
        }
    }

    private void make(String name, String arguments, String answer) throws Exception {
        Method method = methodOf(name);
        Check.due("there is a method " + name, method != null, true);
        if (method != null) {
            shown.add(name);
            Object got = method.invoke(room, values(arguments));
            String want = answer.equals("NONE") ? String.valueOf(UnitRoom.NONE) : answer;
            Check.due(name + "(" + arguments + ")", got.toString(), want);
        }
    }

    private void everyMethodIsShown() {
        for (Method method : UnitRoom.class.getMethods()) {
            if (method.getDeclaringClass() == UnitRoom.class) {
                Check.due("README.md shows " + method.getName(), shown.contains(method.getName()), true);
            }
        }
    }

    private static Method methodOf(String name) {
        for (Method method : UnitRoom.class.getMethods()) {
            if (method.getName().equals(name)) {
                return method;
            }
        }
        return null;
    }

    private static Object[] values(String arguments) {
        if (arguments.isEmpty()) {
            return new Object[0];
        }
        String[] texts = arguments.split(", ");
        Object[] values = new Object[texts.length];
        for (int k = 0; k < texts.length; k++) {
            boolean isTruth = texts[k].equals("true") || texts[k].equals("false");
            values[k] = isTruth ? (Object) Boolean.valueOf(texts[k]) : (Object) Integer.valueOf(texts[k]);
        }
        return values;
    }
}
