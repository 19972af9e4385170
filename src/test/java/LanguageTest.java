import java.io.IOException;
import java.lang.reflect.Constructor;
import java.lang.reflect.Field;
import java.lang.reflect.Method;
import java.lang.reflect.Modifier;
import java.nio.file.Files;
import java.nio.file.Path;
import java.util.List;
import java.util.Set;
import java.util.TreeSet;
import java.util.regex.Matcher;
import java.util.regex.Pattern;

/** What of LANGUAGE.md can be seen from outside: the face, the classes inside, and signs that the rules leave out. */
public final class LanguageTest {
    private static final String FACE = "feed(int,int,int,int,int)int end(int)boolean fault(int)int text(int)int player(int,int)int "
        + "set(int,int)boolean tell(int,int,int)boolean mark(int,boolean)boolean damp(int)int day(int)int undo()int "
        + "time(int,int,int)int spread(int)int worst(int)int parts()int last(int)int settle(int)int ring(int)int head(int)int "
        + "week(int)int leader(int,int)int marks(int)int odds(int,int)int paid(int)int roll(int,int,int)int fits(int)int "
        + "deaf(int)int echoes(int)int gift(int)int tune(int,int)int place(int,int)int overtakes(int,int)int middle()int "
        + "ends(int)int stray(int,int)int image()int back()int count(int)int";
    private static final String[] LEFT_OUT = {"->", "::", "@", "synchronized", "assert ", "finally", "var ", "Exact(", "System.out",
        "System.nano", "System.current", "Thread", "instanceof", "static {", "Random", "HashMap", "Object ", "catch", "\" +", "+ \"",
        "getMessage", "MAX_VALUE", "MIN_VALUE", "while (true", "for (;;"};

    private static final Set<String> FACE_NAMES = Set.of(FACE.replaceAll("\\([^ ]*", "").split(" "));

    private final Check check = new Check();

    public static void main(String[] args) throws IOException {
        LanguageTest test = new LanguageTest();
        test.face();
        test.classesInside();
        test.source(Files.readAllLines(Path.of("src/main/java/BorrowedBeat.java")));
        test.check.close("LanguageTest");
    }

    private void face() {
        check.due("public and final", BorrowedBeat.class.getModifiers(), Modifier.PUBLIC | Modifier.FINAL);
        Set<String> face = new TreeSet<>(List.of(FACE.split(" ")));
        Set<String> found = new TreeSet<>();
        for (Method method : BorrowedBeat.class.getDeclaredMethods()) {
            if (Modifier.isPublic(method.getModifiers())) {
                found.add(signature(method));
            } else {
                check.due(method + " is private", Modifier.isPrivate(method.getModifiers()), true);
            }
        }
        check.due("the face is " + found, found.equals(face), true);
        for (Field field : BorrowedBeat.class.getDeclaredFields()) {
            boolean told = field.getName().equals("NONE") || field.getName().equals("HIDDEN");
            check.due(field + " is private", Modifier.isPrivate(field.getModifiers()), !told);
        }
        Constructor<?>[] constructors = BorrowedBeat.class.getDeclaredConstructors();
        check.due("one constructor", constructors.length, 1);
        check.due("without arguments", constructors[0].getParameterCount(), 0);
    }

    private static String signature(Method method) {
        StringBuilder s = new StringBuilder(method.getName()).append('(');
        for (Class<?> type : method.getParameterTypes()) {
            s.append(s.charAt(s.length() - 1) == '(' ? "" : ",").append(type.getName());
        }
        return s.append(')').append(method.getReturnType().getName()).toString();
    }

    private void classesInside() {
        Class<?>[] inside = BorrowedBeat.class.getDeclaredClasses();
        check.due("some twelve classes", inside.length + 1 <= 12, true);
        looksAt(BorrowedBeat.class);
        for (Class<?> one : inside) {
            check.due(one + " is static", Modifier.isStatic(one.getModifiers()), true);
            check.due(one + " is not public", Modifier.isPublic(one.getModifiers()), false);
            looksAt(one);
        }
    }

    private void looksAt(Class<?> one) {
        int own = 0;
        for (Field field : one.getDeclaredFields()) {
            if (Modifier.isStatic(field.getModifiers())) {
                check.due(field + " is final", Modifier.isFinal(field.getModifiers()), true);
            } else {
                own++;
            }
        }
        check.due(one + " has some twenty fields", own <= 20, true);
        for (Method method : one.getDeclaredMethods()) {
            check.due(method + " takes at most seven", method.getParameterCount() <= 7, true);
            boolean ofFace = one == BorrowedBeat.class && Modifier.isPublic(method.getModifiers());
            check.due(method + " has a name of its own", !ofFace && FACE_NAMES.contains(method.getName()), false);
        }
    }

    private void source(List<String> lines) {
        int start = 0;
        Pattern imported = Pattern.compile("import (.*);");
        for (int i = 0; i < lines.size(); i++) {
            String line = lines.get(i);
            String code = line.trim().startsWith("//") || line.trim().startsWith("*") || line.trim().startsWith("/*") ? "" : line;
            for (String sign : LEFT_OUT) {
                check.due("line " + (i + 1) + " has " + sign, code.contains(sign), false);
            }
            check.due("line " + (i + 1) + " is of the first 127 signs", line.chars().allMatch(c -> c < 128), true);
            Matcher m = imported.matcher(line);
            if (m.matches()) {
                check.due(line, Set.of("java.util.Arrays", "java.util.NoSuchElementException").contains(m.group(1)), true);
            }
            if (line.matches(" {4,8}[^ ].*\\) (throws \\w+ )?\\{")) {
                start = i;
            }
            if (line.matches(" {4,8}\\}")) {
                check.due("the method at line " + (start + 1) + " is short", i - start <= 60 || line.length() == 5, true);
            }
        }
    }
}
