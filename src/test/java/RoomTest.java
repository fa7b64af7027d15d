import java.io.IOException;
import java.lang.reflect.Array;
import java.lang.reflect.Field;
import java.lang.reflect.Modifier;
import java.nio.file.Files;
import java.nio.file.Path;
import java.util.ArrayDeque;
import java.util.Collections;
import java.util.IdentityHashMap;
import java.util.List;
import java.util.Set;

/** What an object makes: all calls of a run live in one room, so what is made is made once and used again. */
public final class RoomTest {
    private static final int MOST_OBJECTS = 200, MOST_NUMBERS = 10_000;
    private static final String TEXT = "take not not ((strength)) < 9 or hurt and - - 1 = skill ; go far * 6 < fuel ;";

    /** What an object's constructors make beside final fields, and the one call that makes something. */
    private static final List<String> MAKERS = List.of("sheets[k] = new Sheet();", "texts[k] = new Text();",
        "int[] bytes = new int[0];",
        "bodies[bodyCount] = new Body(kind, cell, now, men, food, fuel);");

    public static void main(String[] args) throws IllegalAccessException, IOException {
        Check check = new Check("RoomTest");
        RedTent full = new RedTent();
        fill(full);
        int[] held = held(full);
        check.holds("a full object holds " + held[0] + " objects", held[0] <= MOST_OBJECTS);
        check.holds("a full object holds " + held[1] + " fields and elements", held[1] <= MOST_NUMBERS);
        callsMakeNothing(check, Files.readString(Path.of("src/main/java/RedTent.java")));
        check.finish();
    }

    private static void fill(RedTent x) {
        for (int k = 0; k < 12; k++) {
            x.body(k % 6, k, 2, 99, 99);
        }
        for (int k = 0; k < 40; k++) {
            x.wind(k, 200, 1313);
            x.fog(k, 200, k % 9);
            x.pass(1);
            x.fix(k % 12, k, -1L);
            x.hearer(k);
            x.call(k % 12, k % 4, k);
            x.part(k % 6, k % 20, k, k);
            x.lane(7L << k);
            x.man(k % 12, k, k, k);
            x.story(k % 12, k, k);
            x.row(k);
            Check.readText(x, TEXT);
        }
        for (int k = 0; k < 4; k++) {
            x.sheet(k, k % 3, 40);
        }
        for (int k = 0; k < 72; k++) {
            x.flown(2 + k / 36 * 3, k % 12, k % 16);
        }
    }

    /** How many objects and arrays, and how many fields and elements of these, an object leads to. */
    private static int[] held(Object root) throws IllegalAccessException {
        Set<Object> seen = Collections.newSetFromMap(new IdentityHashMap<>());
        ArrayDeque<Object> left = new ArrayDeque<>();
        int numbers = 0;
        seen.add(root);
        left.add(root);
        while (!left.isEmpty()) {
            Object next = left.remove();
            for (Object inside : insides(next)) {
                numbers++;
                if (inside != null && !(inside instanceof Number) && seen.add(inside)) {
                    left.add(inside);
                }
            }
        }
        return new int[] {seen.size(), numbers};
    }

    private static Object[] insides(Object of) throws IllegalAccessException {
        if (of.getClass().isArray()) {
            Object[] all = new Object[Array.getLength(of)];
            for (int k = 0; k < all.length; k++) {
                all[k] = Array.get(of, k);
            }
            return all;
        }
        ArrayDeque<Object> all = new ArrayDeque<>();
        for (Field f : of.getClass().getDeclaredFields()) {
            if (!Modifier.isStatic(f.getModifiers())) {
                f.setAccessible(true);
                all.add(f.get(of) == null ? Integer.valueOf(0) : f.get(of));
            }
        }
        return all.toArray();
    }

    /** Whatever is made, is made for a field as an object begins, or is a body: no other line of the class makes any. */
    private static void callsMakeNothing(Check check, String source) {
        String code = source.replaceAll("(?s)/\\*.*?\\*/", "").replaceAll("//[^\n]*", "");
        for (String line : code.split("\n")) {
            String told = line.trim();
            boolean makes = told.matches(".*(\\bnew\\b|clone\\(|copyOf|StringBuilder|List|Integer\\.valueOf|substring).*");
            boolean isField = told.matches("(private )?final \\w+(\\[\\])* \\w+ = new [^;]+;");
            check.holds("a call makes nothing: " + told, !makes || isField || MAKERS.contains(told));
        }
    }
}
