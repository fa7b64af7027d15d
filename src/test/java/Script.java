import java.util.ArrayList;
import java.util.List;

/**
 * A run of calls, told line by line: "wind 0 240 2222 -> 1". Without an arrow the answer does not matter.
 * "30 x wind 0 1 2222 -> 1.." is asked 30 times, and each answer is 1 more. Numbers may be MIN, MAX (of int),
 * LMIN, LMAX (of long), the face's constants, or sets of cells as {0,9,63}. "feeds 'abc'" puts bytes on the tape,
 * "reads 'abc'" asks text() then. A "!" at the end: the call is refused, but what it did ahead of that stays.
 */
final class Script {
    record Line(String told, String name, long[] args, String bytes, boolean hasDue, long due, boolean stays) { }

    private Script() {
    }

    static List<Line> read(String... lines) {
        List<Line> all = new ArrayList<>();
        for (String line : lines) {
            String[] counted = line.split(" x ", 2);
            boolean many = counted.length == 2 && counted[0].matches("\\d+");
            int times = many ? Integer.parseInt(counted[0]) : 1;
            for (int k = 0; k < times; k++) {
                all.add(one(many ? counted[1] : line, k));
            }
        }
        return all;
    }

    private static Line one(String line, int nth) {
        boolean stays = line.endsWith(" !");
        String rest = stays ? line.substring(0, line.length() - 2) : line;
        String bytes = null;
        int quote = rest.indexOf('\'');
        if (quote >= 0) {
            int end = rest.lastIndexOf('\'');
            bytes = rest.substring(quote + 1, end);
            rest = rest.substring(0, quote) + rest.substring(end + 1);
        }
        String[] sides = rest.split("->", 2);
        String[] words = sides[0].trim().split(" +");
        long[] args = new long[words.length - 1];
        for (int k = 0; k < args.length; k++) {
            args[k] = number(words[k + 1]);
        }
        if (sides.length < 2) {
            return new Line(line, words[0], args, bytes, false, 0, stays);
        }
        String due = sides[1].trim();
        boolean rises = due.endsWith("..");
        long first = number(rises ? due.substring(0, due.length() - 2) : due);
        return new Line(line, words[0], args, bytes, true, rises ? first + nth : first, stays);
    }

    private static long number(String word) {
        switch (word) {
            case "MIN": return Integer.MIN_VALUE;
            case "MAX": return Integer.MAX_VALUE;
            case "LMIN": return Long.MIN_VALUE;
            case "LMAX": return Long.MAX_VALUE;
            case "NONE": return -1;
            case "BAD": return -2;
            case "STATE": return -3;
            case "FULL": return -4;
            case "NO": return -4611686018427387904L;
            default: break;
        }
        if (word.startsWith("~{")) {
            return ~number(word.substring(1));
        }
        if (word.startsWith("{")) {
            long set = 0;
            for (String cell : word.substring(1, word.length() - 1).split(",")) {
                set |= 1L << Integer.parseInt(cell);
            }
            return set;
        }
        return word.startsWith("0x") ? Long.parseUnsignedLong(word.substring(2), 16) : Long.parseLong(word);
    }

    static long ask(Asked x, Line line) {
        if (line.bytes == null) {
            return x.ask(line.name, line.args);
        }
        long size = 0;
        for (int at = 0; at < line.bytes.length(); at += 8) {
            int n = Math.min(8, line.bytes.length() - at);
            long packed = 0;
            for (int k = 0; k < n; k++) {
                packed |= (line.bytes.charAt(at + k) & 255L) << 8 * k;
            }
            size = x.ask("feed", n, packed);
        }
        return line.name.equals("reads") ? x.ask("text") : size;
    }
}
