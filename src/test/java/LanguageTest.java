import java.io.IOException;
import java.lang.reflect.Field;
import java.lang.reflect.Method;
import java.lang.reflect.Modifier;
import java.nio.file.Files;
import java.nio.file.Path;
import java.util.ArrayList;
import java.util.Arrays;
import java.util.Collections;
import java.util.List;
import java.util.regex.Matcher;
import java.util.regex.Pattern;

/** The face of the class, and the rules of LANGUAGE.md that can be seen from outside. */
public final class LanguageTest {
    private static final String[] FACE = {
        "int pass(int)", "int wind(int,int,int)", "int fog(int,int,int)", "int body(int,int,int,int,int)",
        "int bodyTold(int,int)", "long patch(int,int,int)", "int fix(int,int,long)", "int hearer(int)",
        "int wave(int,int,int,int)", "int call(int,int,long)", "int canHear(int,int)", "int part(int,int,int,long)",
        "int word(int,int)", "int isTrue(int)", "int lane(long)", "int flown(int,int,int)", "long share(int,int,int)",
        "int parted(int,int,int,int)", "int stays(int)", "int comes(int,int,int,int)", "int last(int,int,int)",
        "int man(int,int,int,int)", "int feed(int,long)", "int text()", "int force(int)", "long says(int,int,int)",
        "int first(int,int)", "int story(int,int,int)", "int unfit()", "int clash(int,int)", "int row(long)",
        "int days(int,int,int)", "int count(int)", "int sheet(int,int,int)", "int cell(int,int,int)",
        "int copy(int,int,int,int,int)", "int fixes(int,int,int,int,int)", "int taken(int,int)",
    };
    private static final String[] BANNED = {
        "throw", "throws", "try", "catch", "synchronized", "assert", "import", "package", "protected", "native",
        "volatile", "transient", "Random", "Thread", "File", "Object", "equals", "hashCode", "System.out",
        "System.err", "System.currentTimeMillis", "System.nanoTime",
    };

    public static void main(String[] args) throws IOException {
        Check check = new Check("LanguageTest");
        face(check);
        classes(check);
        source(check, Files.readString(Path.of("src/main/java/RedTent.java")));
        check.finish();
    }

    private static String told(Method m) {
        List<String> types = new ArrayList<>();
        for (Class<?> type : m.getParameterTypes()) {
            types.add(type.getName());
        }
        return m.getReturnType().getName() + " " + m.getName() + "(" + String.join(",", types) + ")";
    }

    private static void face(Check check) {
        List<String> open = new ArrayList<>();
        for (Method m : RedTent.class.getDeclaredMethods()) {
            if (Modifier.isPublic(m.getModifiers())) {
                open.add(told(m));
            } else {
                check.holds("private: " + told(m), Modifier.isPrivate(m.getModifiers()));
            }
        }
        List<String> want = new ArrayList<>(Arrays.asList(FACE));
        Collections.sort(open);
        Collections.sort(want);
        check.holds("the face is " + want + ", and not " + open, open.equals(want));
        List<String> constants = List.of("NONE", "BAD", "STATE", "FULL", "NO");
        for (Field f : RedTent.class.getDeclaredFields()) {
            boolean isOpen = constants.contains(f.getName());
            check.holds("field " + f.getName(), isOpen ? Modifier.isPublic(f.getModifiers()) : Modifier.isPrivate(f.getModifiers()));
            check.holds("static fields are final: " + f.getName(),
                !Modifier.isStatic(f.getModifiers()) || Modifier.isFinal(f.getModifiers()));
        }
        check.holds("public and final", (RedTent.class.getModifiers() & (Modifier.PUBLIC | Modifier.FINAL)) == (Modifier.PUBLIC | Modifier.FINAL));
        check.due("constructors", RedTent.class.getConstructors().length, 1);
    }

    private static void classes(Check check) {
        Class<?>[] inside = RedTent.class.getDeclaredClasses();
        check.holds("some twelve classes", inside.length + 1 <= 12);
        List<String> names = new ArrayList<>();
        for (String method : FACE) {
            names.add(method.substring(method.indexOf(' ') + 1, method.indexOf('(')));
        }
        for (Class<?> c : inside) {
            check.holds(c.getName() + " is static", Modifier.isStatic(c.getModifiers()));
            int fields = 0;
            for (Field f : c.getDeclaredFields()) {
                fields += Modifier.isStatic(f.getModifiers()) ? 0 : 1;
            }
            check.holds(c.getName() + " has some twenty fields", fields <= 20);
            for (Method m : c.getDeclaredMethods()) {
                check.holds(c.getName() + "." + m.getName() + " bears no public name", !names.contains(m.getName()));
                check.holds(m.getName() + " takes at most seven", m.getParameterCount() <= 7);
            }
        }
        for (Method m : RedTent.class.getDeclaredMethods()) {
            check.holds(m.getName() + " bears no public name", Modifier.isPublic(m.getModifiers()) || !names.contains(m.getName()));
        }
    }

    private static void source(Check check, String source) {
        String code = source.replaceAll("(?s)/\\*.*?\\*/", "").replaceAll("//[^\n]*", "").replaceAll("\"[^\"]*\"", "\"\"");
        for (String word : BANNED) {
            Matcher m = Pattern.compile("\\b" + Pattern.quote(word) + "\\b").matcher(code);
            check.holds("no '" + word + "'", !m.find());
        }
        check.holds("no lambda", !code.contains("->"));
        check.holds("no method reference", !code.contains("::"));
        check.holds("no Exact", !code.contains("Exact("));
        check.holds("signs 0 to 127", source.chars().allMatch(c -> c < 128));
        int begun = -1;
        String[] lines = source.split("\n");
        for (int k = 0; k < lines.length; k++) {
            if (lines[k].matches("(    |        )(public|private|static|int|long|boolean|void).*\\) \\{")) {
                begun = k;
            }
            if (begun >= 0 && lines[k].matches("(    |        )\\}")) {
                check.holds("short: " + lines[begun].trim(), k - begun <= 60);
                begun = -1;
            }
        }
    }
}
