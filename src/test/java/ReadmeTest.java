import java.lang.reflect.Method;
import java.nio.file.Files;
import java.nio.file.Path;
import java.util.HashMap;
import java.util.Map;
import java.util.regex.Matcher;
import java.util.regex.Pattern;

/** README.md: every call of its examples answers what the README says behind it, and no public method is left out. */
public final class ReadmeTest {
    private static final Due DUE = new Due("ReadmeTest");
    private static final Pattern NEW = Pattern.compile("PolyWork w = new PolyWork\\(\\);.*");
    private static final Pattern CALL =
        Pattern.compile("(?:int (\\w+) = )?w\\.(\\w+)\\((.*?)\\); *// (true|false|-?\\d+)(?::.*)?");

    private PolyWork work = new PolyWork();
    private final Map<String, Long> names = new HashMap<>();

    public static void main(String[] args) throws Exception {
        String text = Files.readString(Path.of("README.md"));
        Matcher block = Pattern.compile("(?s)```java\n(.*?)```").matcher(text);
        int blocks = 0;
        while (block.find()) {
            blocks++;
            new ReadmeTest().run(block.group(1));
        }
        DUE.is("there are examples", blocks > 0, true);
        for (Method method : PolyWork.class.getDeclaredMethods()) {
            if (java.lang.reflect.Modifier.isPublic(method.getModifiers())) {
                DUE.is("README tells " + method.getName(), text.contains("`" + method.getName() + "("), true);
            }
        }
        DUE.end();
    }

    private void run(String block) throws Exception {
        for (String line : block.split("\n")) {
            Matcher call = CALL.matcher(line);
            if (NEW.matcher(line).matches()) {
                work = new PolyWork();
            } else if (call.matches()) {
                long answer = answer(call.group(2), call.group(3).isEmpty() ? new String[0] : call.group(3).split(", "));
                String due = call.group(4);
                DUE.is(line, answer, due.equals("true") ? 1 : due.equals("false") ? 0 : Long.parseLong(due));
                names.put(call.group(1), answer);
            } else {
                DUE.is("'" + line + "' is a call with its answer", line.isBlank(), true);
            }
        }
    }

    private long answer(String name, String[] words) throws Exception {
        for (Method method : PolyWork.class.getDeclaredMethods()) {
            if (method.getName().equals(name) && method.getParameterCount() == words.length) {
                Object[] arguments = new Object[words.length];
                for (int k = 0; k < words.length; k++) {
                    long number = names.containsKey(words[k]) ? names.get(words[k]) : Long.parseLong(words[k]);
                    if (method.getParameterTypes()[k] == int.class) {
                        arguments[k] = (int) number;
                    } else {
                        arguments[k] = number;
                    }
                }
                Object answer = method.invoke(work, arguments);
                return answer instanceof Boolean ? ((Boolean) answer ? 1 : 0) : (Integer) answer;
            }
        }
        DUE.is("there is a method " + name, false, true);
        return 0;
    }
}
