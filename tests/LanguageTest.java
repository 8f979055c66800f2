import java.lang.reflect.Constructor;
import java.lang.reflect.Field;
import java.lang.reflect.Method;
import java.lang.reflect.Modifier;
import java.nio.file.Files;
import java.nio.file.Path;
import java.util.ArrayList;
import java.util.Arrays;
import java.util.List;
import java.util.TreeSet;
import java.util.regex.Matcher;
import java.util.regex.Pattern;

/** The face is the document's and no more, and the source keeps to the rules that a machine can see. */
public final class LanguageTest {
    private static final Check CHECK = new Check("LanguageTest");

    private static final String[] FACE = {
        "int after(int,int)", "int ask(int,int)", "int back(int)", "int buys(int,int)", "int cold(int)", "int count(int)",
        "int debt(int,int)", "int dress(int,int,int)", "int drift(int,int,int)", "int end(int)", "int fault()", "int feed(int)",
        "int fewest(int,int)", "int fits(int)", "int forget(int)", "int go(int)", "int halve(int)", "int heat(int)",
        "int keep(int)", "int lay(int,int,int)", "int one(int,int)", "int owe(int,int)", "int pay(int,int)", "int price(int)",
        "int read(int,int,int,int)", "int rule(int)", "int see(int,int)", "int set(int,int)", "int settle(int)",
        "int sheet(int,int,int)", "int stone(int,int)", "int text()", "int torn()", "int walks(int,int)", "int warm(int,int,int)",
        "int way(int,int,int)", "int wool(int,int)", "long lasts(int,int,int)", "long mean(int,int,int)", "long spend(int,int)"
    };

    private static final String[] FORBIDDEN = {
        "throw", "throws", "try", "catch", "synchronized", "assert", "finally", "import", "Object", "System.out", "float",
        "double", "Thread", "Random", "nanoTime", "currentTimeMillis", "->", "::", "Exact", "equals", "hashCode", "toString"
    };

    private static void right(String what, boolean holds) {
        CHECK.due(what, holds ? 1 : 0, 1);
    }

    private static String told(Method m) {
        List<String> types = new ArrayList<>();
        for (Class<?> type : m.getParameterTypes()) {
            types.add(type.getSimpleName());
        }
        return m.getReturnType().getSimpleName() + " " + m.getName() + "(" + String.join(",", types) + ")";
    }

    private static void face() {
        Class<TepidPurse> purse = TepidPurse.class;
        right("public and final", Modifier.isPublic(purse.getModifiers()) && Modifier.isFinal(purse.getModifiers()));
        TreeSet<String> open = new TreeSet<>();
        TreeSet<String> names = new TreeSet<>();
        for (Method m : purse.getDeclaredMethods()) {
            if (!Modifier.isPrivate(m.getModifiers())) {
                right("public, not static: " + m, Modifier.isPublic(m.getModifiers()) && !Modifier.isStatic(m.getModifiers()));
                open.add(told(m));
                names.add(m.getName());
            }
        }
        right("the methods " + open, open.equals(new TreeSet<>(Arrays.asList(FACE))));
        TreeSet<String> constants = new TreeSet<>();
        for (Field f : purse.getDeclaredFields()) {
            if (!Modifier.isPrivate(f.getModifiers())) {
                constants.add(Modifier.toString(f.getModifiers()) + " " + f.getType() + " " + f.getName());
            }
            right("static and final, or neither: " + f, !Modifier.isStatic(f.getModifiers()) || Modifier.isFinal(f.getModifiers()));
        }
        right("the constants " + constants, constants.equals(new TreeSet<>(Arrays.asList("public static final int BAD",
            "public static final int FULL", "public static final int NONE", "public static final int STATE"))));
        Constructor<?>[] made = purse.getDeclaredConstructors();
        right("one constructor", made.length == 1 && made[0].getParameterCount() == 0 && Modifier.isPublic(made[0].getModifiers()));
        inside(purse, names);
    }

    private static void inside(Class<?> purse, TreeSet<String> names) {
        Class<?>[] classes = purse.getDeclaredClasses();
        right("at most twelve classes", classes.length <= 12);
        List<Class<?>> all = new ArrayList<>(Arrays.asList(classes));
        all.add(purse);
        for (Class<?> c : all) {
            right("static inside: " + c, c == purse || Modifier.isStatic(c.getModifiers()));
            long fields = Arrays.stream(c.getDeclaredFields()).filter(f -> !Modifier.isStatic(f.getModifiers())).count();
            right("at most twenty fields: " + c, fields <= 20);
            for (Method m : c.getDeclaredMethods()) {
                right("at most seven parameters: " + m, m.getParameterCount() <= 7);
                right("a name of its own: " + m, c == purse && Modifier.isPublic(m.getModifiers()) || !names.contains(m.getName()));
            }
        }
    }

    private static String withoutRemarks(String source) {
        return source.replaceAll("(?s)/\\*.*?\\*/", "").replaceAll("//[^\n]*", "").replaceAll("\"[^\"]*\"", "\"\"");
    }

    private static void source(String source) {
        String code = withoutRemarks(source);
        for (String word : FORBIDDEN) {
            boolean isWord = word.matches("[A-Za-z]+") && !word.equals("Exact");
            Matcher m = Pattern.compile(isWord ? "\\b" + word + "\\b" : Pattern.quote(word)).matcher(code);
            right("without " + word, !m.find());
        }
        String[] lines = code.split("\n");
        int begun = 0;
        for (int i = 0; i < lines.length; i++) {
            boolean isHead = lines[i].matches(" {4}( {4})?[A-Za-z].*\\) \\{");
            begun = isHead ? i : begun;
            if (lines[i].matches(" {4}( {4})?\\}")) {
                right("a short method up to line " + i, i - begun <= 60 || lines[begun].contains("class"));
            }
        }
    }

    /** What is made is made with the object: no method of it makes anything. */
    private static void makesNothingLater(String source) {
        for (String line : withoutRemarks(source).split("\n")) {
            if (line.contains("new ")) {
                boolean isField = line.matches(" +(private )?(final )?[A-Za-z]+(\\[\\])* \\w+ = new .*;");
                boolean isInConstructor = line.matches(" +(images\\[k\\]|sheets\\[k\\]|worlds\\[i\\]) = new (World|Sheet)\\(\\);");
                right("made at once: " + line.trim(), isField || isInConstructor);
            }
        }
    }

    public static void main(String[] args) throws Exception {
        face();
        String path = System.getProperty("tepid.source", "src/main/java/TepidPurse.java");
        String source = Files.readString(Path.of(path));
        source(source);
        makesNothingLater(source);
        CHECK.finish();
    }
}
