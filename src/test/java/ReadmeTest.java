import java.io.IOException;
import java.lang.reflect.InvocationTargetException;
import java.lang.reflect.Method;
import java.lang.reflect.Modifier;
import java.nio.file.Files;
import java.nio.file.Path;
import java.util.regex.Matcher;
import java.util.regex.Pattern;

/** The calls that README.md shows under "Use" answer as it says. */
public final class ReadmeTest {
    private static final Pattern CALL = Pattern.compile("x\\.(\\w+)\\((.*)\\);\\s*// (throws \\w+|-?\\w+).*");

    private final Check check = new Check();
    private BorrowedBeat x;

    public static void main(String[] args) throws IOException {
        ReadmeTest test = new ReadmeTest();
        String page = Files.readString(Path.of("README.md"));
        int from = page.indexOf("```java");
        int to = page.indexOf("```", from + 1);
        test.check.due("there are calls to show", from >= 0 && to > from, true);
        test.calls(page.substring(from, to).split("\n"));
        test.names(page);
        test.check.close("ReadmeTest");
    }

    private void calls(String[] lines) {
        for (int i = 1; i < lines.length; i++) {
            Matcher m = CALL.matcher(lines[i]);
            if (lines[i].equals("BorrowedBeat x = new BorrowedBeat();")) {
                x = new BorrowedBeat();
            } else if (!lines[i].isEmpty()) {
                check.due("'" + lines[i] + "' is a call with its answer", m.matches(), true);
                String got = answer(m.group(1), m.group(2).isEmpty() ? new String[0] : m.group(2).split(", "));
                check.due("'" + lines[i] + "' (" + got + ")", got.equals(m.group(3)), true);
            }
        }
    }

    private String answer(String name, String[] words) {
        for (Method method : BorrowedBeat.class.getMethods()) {
            if (method.getName().equals(name) && method.getParameterCount() == words.length) {
                Object[] arguments = new Object[words.length];
                for (int i = 0; i < words.length; i++) {
                    boolean asks = method.getParameterTypes()[i] == boolean.class;
                    arguments[i] = asks ? (Object) Boolean.valueOf(words[i]) : (Object) number(words[i]);
                }
                try {
                    return String.valueOf(method.invoke(x, arguments));
                } catch (InvocationTargetException e) {
                    return "throws " + e.getCause().getClass().getSimpleName();
                } catch (IllegalAccessException e) {
                    return "no access";
                }
            }
        }
        return "no such call";
    }

    /** A number as it stands, or signs that are shifted and put together. */
    private static int number(String words) {
        int number = 0;
        for (String part : words.split(" \\| ")) {
            String[] shifted = part.split(" << ");
            String sign = shifted[0];
            int value = sign.startsWith("'") ? sign.charAt(1) : Integer.parseInt(sign);
            number |= value << (shifted.length > 1 ? Integer.parseInt(shifted[1]) : 0);
        }
        return number;
    }

    private void names(String page) {
        for (Method method : BorrowedBeat.class.getDeclaredMethods()) {
            if (Modifier.isPublic(method.getModifiers())) {
                check.due("README.md names " + method.getName(), page.contains("`" + method.getName() + "`"), true);
            }
        }
    }
}
