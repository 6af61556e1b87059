import java.io.IOException;
import java.lang.reflect.Constructor;
import java.lang.reflect.Method;
import java.lang.reflect.Modifier;
import java.nio.file.Files;
import java.nio.file.Path;
import java.util.ArrayList;
import java.util.Arrays;
import java.util.List;
import java.util.TreeSet;
import java.util.regex.Matcher;
import java.util.regex.Pattern;

/** The document's face, and those rules of ../shared/LANGUAGE.md that a program can look after. */
public final class FaceAndLanguageTest {
    private static final Due DUE = new Due("FaceAndLanguageTest");
    private static final Path SOURCE = Path.of("src/main/java/LabelsOfLines.java");
    private static final String FACE = "letter/1 text/0 points/1 line/3 drop/0 label/2 turn/3 of/2 taken/2 table/2 "
        + "sum/1 total/0 rule/1 ranked/1 ways/4 magic/3 difference/2 settled/0 orders/2 spread/0 odds/3 lots/4 "
        + "rank/1 parts/1 sides/1 written/1 list/2 put/3 look/2 lays/2 judge/1 gives/1 rules/1 undo/0 image/0 "
        + "on/0 count/1";

    public static void main(String[] args) throws IOException {
        face();
        nestedClasses();
        String source = withoutComments(Files.readString(SOURCE));
        words(source);
        methodLengths(source);
        DUE.end();
    }

    private static void face() {
        TreeSet<String> due = new TreeSet<>(Arrays.asList(FACE.split(" ")));
        TreeSet<String> are = new TreeSet<>();
        TreeSet<String> hidden = new TreeSet<>();
        for (Method m : LabelsOfLines.class.getDeclaredMethods()) {
            if (Modifier.isPublic(m.getModifiers())) {
                are.add(m.getName() + "/" + m.getParameterCount());
                boolean isLong = m.getName().equals("odds") || m.getName().equals("look");
                DUE.is("type of " + m.getName(), m.getReturnType() == (isLong ? long.class : int.class) ? 1 : 0, 1);
                for (Class<?> type : m.getParameterTypes()) {
                    DUE.is("parameter of " + m.getName(), type == int.class ? 1 : 0, 1);
                }
            } else {
                DUE.is("private " + m.getName(), Modifier.isPrivate(m.getModifiers()) ? 1 : 0, 1);
                hidden.add(m.getName());
            }
        }
        DUE.is("the face " + are, due.equals(are) ? 1 : 0, 1);
        for (String call : due) {
            DUE.is("hidden " + call, hidden.contains(call.split("/")[0]) ? 1 : 0, 0);
        }
        DUE.is("public final", LabelsOfLines.class.getModifiers(), Modifier.PUBLIC | Modifier.FINAL);
        Constructor<?>[] makers = LabelsOfLines.class.getDeclaredConstructors();
        DUE.is("constructors", makers.length, 1);
        DUE.is("its arguments", makers[0].getParameterCount(), 0);
        DUE.is("public constructor", Modifier.isPublic(makers[0].getModifiers()) ? 1 : 0, 1);
        Arrays.stream(LabelsOfLines.class.getDeclaredFields())
            .forEach(f -> DUE.is("private field " + f.getName(), Modifier.isPrivate(f.getModifiers()) ? 1 : 0, 1));
    }

    private static void nestedClasses() {
        List<Class<?>> all = new ArrayList<>(Arrays.asList(LabelsOfLines.class.getDeclaredClasses()));
        DUE.is("classes beyond twelve", Math.max(0, all.size() + 1 - 12), 0);
        TreeSet<String> face = new TreeSet<>();
        for (String call : FACE.split(" ")) {
            face.add(call.split("/")[0]);
        }
        all.add(LabelsOfLines.class);
        for (Class<?> one : all) {
            boolean isNested = one != LabelsOfLines.class;
            DUE.is("static " + one.getName(), !isNested || Modifier.isStatic(one.getModifiers()) ? 1 : 0, 1);
            long fields = Arrays.stream(one.getDeclaredFields()).filter(f -> !Modifier.isStatic(f.getModifiers())).count();
            DUE.is("fields beyond twenty of " + one.getName(), Math.max(0, fields - 20), 0);
            Arrays.stream(one.getDeclaredFields()).filter(f -> Modifier.isStatic(f.getModifiers()))
                .forEach(f -> DUE.is("static " + f.getName(), Modifier.isFinal(f.getModifiers()) ? 1 : 0, 1));
            for (Method m : one.getDeclaredMethods()) {
                DUE.is("parameters beyond seven of " + m.getName(), Math.max(0, m.getParameterCount() - 7), 0);
                DUE.is("a name of the face " + m.getName(), isNested && face.contains(m.getName()) ? 1 : 0, 0);
            }
        }
    }

    private static void words(String source) {
        String[] forbidden = {"throw", "throws", "try", "catch", "finally", "synchronized", "assert", "import", "package",
            "volatile", "transient", "native", "Object", "Exception", "System\\.out", "System\\.exit", "protected",
            "yield", "->", "::", "toString", "hashCode", "Random", "Thread", "Exact", "\"", "@"};
        for (String word : forbidden) {
            String pattern = word.matches("\\w+") ? "\\b" + word + "\\b" : word;
            DUE.is("the word " + word, Pattern.compile(pattern).matcher(source).find() ? 1 : 0, 0);
        }
        DUE.is("signs beyond 127", source.chars().anyMatch(c -> c > 127) ? 1 : 0, 0);
        Matcher made = Pattern.compile("new (\\w+)").matcher(source);
        int objects = 0;
        while (made.find()) {
            objects++;
            boolean inField = source.lastIndexOf('\n', made.start()) >= 0
                && source.substring(source.lastIndexOf('\n', made.start()), made.start()).contains("final");
            DUE.is("new " + made.group(1) + " but for a field", inField ? 1 : 0, 1);
        }
        DUE.is("there are objects", objects > 0 ? 1 : 0, 1);
    }

    private static void methodLengths(String source) {
        String[] rows = source.split("\n");
        int begin = -1;
        for (int i = 0; i < rows.length; i++) {
            boolean opens = rows[i].matches("    (    )?\\S.*\\) \\{") && !rows[i].matches("\\s+(if|for|while|switch).*");
            if (opens) {
                begin = i;
            }
            if (begin >= 0 && rows[i].matches("    (    )?\\}") && indent(rows[i]) == indent(rows[begin])) {
                DUE.is("rows beyond sixty of " + rows[begin].trim(), Math.max(0, i - begin + 1 - 60), 0);
                begin = -1;
            }
        }
    }

    private static int indent(String row) {
        return row.length() - row.stripLeading().length();
    }

    private static String withoutComments(String source) {
        return source.replaceAll("(?s)/\\*.*?\\*/", "").replaceAll("//[^\n]*", "");
    }
}
