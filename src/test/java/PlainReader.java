import java.util.ArrayList;
import java.util.List;
import java.util.regex.Matcher;
import java.util.regex.Pattern;

/** Reads a text into a tree, for PlainTent: tokens by a pattern first, then the grammar as it stands. */
final class PlainReader {
    private static final List<String> NAMES = List.of("strength", "hurt", "skill", "hour", "fuel", "far");
    private static final List<String> KEYS = List.of("take", "go", "or", "and", "not");
    private static final Pattern TOKEN = Pattern.compile("[ \n]*(?:([a-z]+)|([0-9]+)|([();+\\-*<=])|([^ \n]))", Pattern.DOTALL);

    private final List<String> tokens = new ArrayList<>();
    private final List<Integer> places = new ArrayList<>();
    private int at;
    private int open;

    PlainReader(String text) {
        Matcher m = TOKEN.matcher(text);
        while (m.lookingAt()) {
            int group = m.group(1) != null ? 1 : m.group(2) != null ? 2 : m.group(3) != null ? 3 : 4;
            String token = m.group(group);
            boolean wrong = group == 4 || group == 2 && token.length() > 4
                || group == 1 && !NAMES.contains(token) && !KEYS.contains(token);
            tokens.add(wrong ? "?" : token);
            places.add(m.start(group));
            m.region(m.end(), text.length());
        }
        tokens.add("");
        places.add(text.length());
    }

    PlainTent.Parsed read() throws PlainTent.Fault {
        need("take");
        PlainTent.Node take = or();
        need(";");
        need("go");
        PlainTent.Node go = or();
        need(";");
        need("");
        return new PlainTent.Parsed(take, go);
    }

    private boolean at(String token) {
        return tokens.get(at).equals(token);
    }

    private void need(String token) throws PlainTent.Fault {
        if (!at(token)) throw new PlainTent.Fault(places.get(at));
        if (!token.isEmpty()) at++;
    }

    private void opens(String token) throws PlainTent.Fault {
        if (open == 5) throw new PlainTent.Fault(places.get(at));
        need(token);
        open++;
    }

    private PlainTent.Node or() throws PlainTent.Fault {
        PlainTent.Node left = and();
        while (at("or")) {
            need("or");
            PlainTent.Node l = left;
            PlainTent.Node r = and();
            left = v -> (l.value(v) != 0 ? 1 : 0) + (r.value(v) != 0 ? 1 : 0) > 0 ? 1 : 0;
        }
        return left;
    }

    private PlainTent.Node and() throws PlainTent.Fault {
        PlainTent.Node left = not();
        while (at("and")) {
            need("and");
            PlainTent.Node l = left;
            PlainTent.Node r = not();
            left = v -> (l.value(v) != 0 ? 1 : 0) * (r.value(v) != 0 ? 1 : 0);
        }
        return left;
    }

    private PlainTent.Node not() throws PlainTent.Fault {
        if (at("not")) {
            opens("not");
            PlainTent.Node of = not();
            open--;
            return v -> of.value(v) == 0 ? 1 : 0;
        }
        PlainTent.Node left = sum();
        if (at("<")) {
            need("<");
            PlainTent.Node right = sum();
            return v -> left.value(v) < right.value(v) ? 1 : 0;
        }
        if (at("=")) {
            need("=");
            PlainTent.Node right = sum();
            return v -> left.value(v) == right.value(v) ? 1 : 0;
        }
        return left;
    }

    private PlainTent.Node sum() throws PlainTent.Fault {
        PlainTent.Node left = term();
        while (at("+") || at("-")) {
            int sign = at("+") ? 1 : -1;
            at++;
            PlainTent.Node l = left;
            PlainTent.Node r = term();
            left = v -> l.value(v) + sign * r.value(v);
        }
        return left;
    }

    private PlainTent.Node term() throws PlainTent.Fault {
        PlainTent.Node left = one();
        while (at("*")) {
            at++;
            PlainTent.Node l = left;
            PlainTent.Node r = one();
            left = v -> l.value(v) * r.value(v);
        }
        return left;
    }

    private PlainTent.Node one() throws PlainTent.Fault {
        String token = tokens.get(at);
        int name = NAMES.indexOf(token);
        if (name >= 0) {
            at++;
            return v -> v[name];
        }
        if (!token.isEmpty() && Character.isDigit(token.charAt(0))) {
            at++;
            int number = Integer.parseInt(token);
            return v -> number;
        }
        if (at("-")) {
            opens("-");
            PlainTent.Node of = one();
            open--;
            return v -> -of.value(v);
        }
        opens("(");
        PlainTent.Node of = or();
        need(")");
        open--;
        return of;
    }
}
