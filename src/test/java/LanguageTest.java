import java.io.IOException;
import java.lang.reflect.Constructor;
import java.lang.reflect.Field;
import java.lang.reflect.Method;
import java.lang.reflect.Modifier;
import java.nio.file.Files;
import java.nio.file.Path;
import java.util.HashMap;
import java.util.Map;
import java.util.Set;
import java.util.TreeSet;
import java.util.regex.Matcher;
import java.util.regex.Pattern;

/** The public face, and those rules of LANGUAGE.md that can be read off the file. */
public final class LanguageTest {
    private static final String FACE = "type(int,int) wipe(int) undo(int) fault(int) way(int,int) carter(int,int)"
        + " late(int,int) answer(int,int) back() read(int) at(int,int,int) ends(int) far(int,int) who(int) met(int)"
        + " busiest() needs(int) lend(int) delay(int,int) level(int) seen(int,int,int) forget() never() sort(int)"
        + " force(int,int) ask(int) rumour(int,int,int) market(int,int) sheet(int,int,int) lose(int)"
        + " lay(int,int,int,int) get(int,int,int) copy(int,int,int,int,int) write(int,int) count(int) digest()";

    public static void main(String[] args) throws IOException {
        face();
        nested();
        String file = Files.readString(Path.of("src/main/java/QuestionRoad.java"));
        source(file);
        document(Files.readString(Path.of("../shared/DOC.md")), file);
        Checks.end("LanguageTest");
    }

    private static String signature(Method m) {
        StringBuilder s = new StringBuilder(m.getName()).append('(');
        for (Class<?> p : m.getParameterTypes()) {
            s.append(s.charAt(s.length() - 1) == '(' ? "" : ",").append(p.getName());
        }
        return s.append(')').toString();
    }

    private static void face() {
        Set<String> want = new TreeSet<>(Set.of(FACE.split(" ")));
        Set<String> is = new TreeSet<>();
        for (Method m : QuestionRoad.class.getDeclaredMethods()) {
            if (!Modifier.isPrivate(m.getModifiers())) {
                is.add(signature(m));
                boolean isLong = m.getName().equals("rumour") || m.getName().equals("digest");
                Checks.dueTrue("type of " + m.getName(), m.getReturnType() == (isLong ? long.class : int.class));
                Checks.dueTrue("public " + m.getName(), Modifier.isPublic(m.getModifiers()) && !Modifier.isStatic(m.getModifiers()));
            }
        }
        Checks.dueTrue("the face is " + is, is.equals(want));
        Checks.due("calls of the face", is.size(), 36);
        for (Field f : QuestionRoad.class.getDeclaredFields()) {
            boolean isConstant = Set.of("NONE", "BAD", "NOT", "FULL").contains(f.getName());
            Checks.dueTrue("field " + f.getName(), isConstant == !Modifier.isPrivate(f.getModifiers()));
            Checks.dueTrue("static " + f.getName(), !Modifier.isStatic(f.getModifiers()) || Modifier.isFinal(f.getModifiers()));
        }
        Constructor<?>[] made = QuestionRoad.class.getDeclaredConstructors();
        Checks.dueTrue("one constructor", made.length == 1 && made[0].getParameterCount() == 0);
        Checks.dueTrue("a final class", Modifier.isFinal(QuestionRoad.class.getModifiers()));
    }

    /** Each line of the document's face, and what it says ahead of calls, stands in the file in the same order. */
    private static void document(String text, String file) {
        Map<String, String> headings = new HashMap<>();
        Matcher said = Pattern.compile("Ahead of the calls `(\\w+)`.* the interface says: (---- .*)\\.").matcher(text);
        while (said.find()) {
            headings.put(said.group(1), "// " + said.group(2) + "\n");
        }
        Checks.due("headings", headings.size(), 5);
        int behind = 0;
        int lines = 0;
        Matcher line = Pattern.compile("\n    (public (?:int|long|static|Q)[^;]*);").matcher(text);
        while (line.find()) {
            lines++;
            String face = line.group(1);
            String name = face.replaceAll("public \\w+ (\\w+)\\(.*", "$1");
            if (headings.containsKey(name)) {
                behind = placeBehind(file, headings.get(name), behind);
            }
            behind = placeBehind(file, face + (face.endsWith(")") ? " {" : ";"), behind);
            Checks.dueTrue("a promise of " + name, !face.endsWith(")") || text.contains("`" + face.substring(7) + "`:"));
        }
        Checks.due("lines of the face", lines, 38);
    }

    private static int placeBehind(String file, String words, int start) {
        int place = file.indexOf(words, start);
        Checks.dueTrue("in its place: " + words, place >= 0);
        return Math.max(place, start);
    }

    private static void nested() {
        Class<?>[] classes = QuestionRoad.class.getDeclaredClasses();
        Checks.dueTrue("some twelve classes", classes.length + 1 <= 12);
        for (Class<?> c : classes) {
            Checks.dueTrue("static " + c, Modifier.isStatic(c.getModifiers()));
            Checks.dueTrue("fields of " + c, c.getDeclaredFields().length <= 20);
            for (Method m : c.getDeclaredMethods()) {
                Checks.dueTrue("name of " + m, !(" " + FACE).contains(" " + m.getName() + "("));
                Checks.dueTrue("parameters of " + m, m.getParameterCount() <= 7);
            }
        }
    }

    private static void source(String file) {
        String[] banned = {"throw", "throws", "try", "catch", "synchronized", "assert", "import", "package", "->", "::",
            "System\\.(?!arraycopy)", "Exact", "volatile", "native", "static \\{", "String\\.format"};
        for (String word : banned) {
            String edge = Character.isLetter(word.charAt(0)) ? "\\b" : "";
            Checks.dueTrue("no " + word, !Pattern.compile(edge + word).matcher(file).find());
        }
        methodsStayShort(file);
        Checks.dueTrue("signs are 1 to 127", file.chars().allMatch(b -> b > 0 && b < 128));
    }

    private static void methodsStayShort(String file) {
        String indent = "    ";
        int start = 0;
        String[] lines = file.split("\n");
        for (int i = 0; i < lines.length; i++) {
            if (lines[i].matches(" {4}private .*class \\w+ \\{")) {
                indent = "        ";
            } else if (lines[i].matches(indent + "\\S.*\\) \\{")) {
                start = i;
            } else if (lines[i].equals(indent + "}")) {
                Checks.dueTrue("a method of " + (i - start + 1) + " lines: " + lines[start], i - start + 1 <= 60);
            }
        }
    }
}
