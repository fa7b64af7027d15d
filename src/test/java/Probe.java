import java.util.ArrayList;
import java.util.List;

/**
 * Asks an object all there is to ask, in parts that fit into the calls it is promised for:
 * two objects that answer alike hold alike what was told. Some questions change it, so it is spent then.
 */
final class Probe {
    static final int PARTS = 5;

    private final Asked x;
    private final List<String> answers = new ArrayList<>();
    private int hour;
    private int bodies;
    private int seeker;

    private Probe(Asked x) {
        this.x = x;
    }

    static List<String> of(Asked x, int part) {
        Probe probe = new Probe(x);
        probe.hour = x.has(0);
        probe.bodies = x.has(1);
        probe.seeker = probe.findSeeker();
        switch (part) {
            case 0: probe.bodies(); break;
            case 1: probe.calls(); break;
            case 2: probe.lanes(); break;
            case 3: probe.orders(); break;
            default: probe.sheets(); break;
        }
        return probe.answers;
    }

    private long ask(String name, long... args) {
        long answer = x.ask(name, args);
        StringBuilder told = new StringBuilder(name);
        for (long arg : args) {
            told.append(' ').append(arg);
        }
        answers.add(told.append(" -> ").append(answer).toString());
        return answer;
    }

    private int findSeeker() {
        for (int b = 0; b < bodies; b++) {
            if (x.ask("taken", b, 2) >= 0) {
                return b;
            }
        }
        return -1;
    }

    private void bodies() {
        for (int what = 0; what <= 14; what++) {
            ask("count", what);
        }
        for (int b = 0; b < bodies; b++) {
            for (int what = 0; what <= 8; what++) {
                ask("bodyTold", b, what);
            }
            ask("patch", b, hour, hour);
            ask("patch", b, 239, hour);
            ask("patch", b, hour, 0);
        }
        ask("unfit");
    }

    private void calls() {
        int calls = x.has(5);
        for (int c = 0; c < calls; c++) {
            ask("canHear", c, hour);
            for (int w = 0; w < 16; w += 5) {
                ask("word", c, w);
            }
        }
        int parts = x.has(6);
        for (int p = 0; p < parts; p++) {
            ask("isTrue", p);
        }
        for (int w = 0; w < 4; w++) {
            ask("wave", w, 0, 0, 9);
            ask("wave", w, 1, 0, 9);
        }
        for (int far = 0; far < 8 && calls > 0; far++) {
            int wave = far % 4;
            ask("wave", wave, 0, far, far);
            ask("wave", wave, 1, far, far);
            ask("canHear", wave < calls ? wave : 0, hour);
        }
    }

    private void lanes() {
        int lanes = x.has(7);
        for (int b = 0; b < bodies; b++) {
            long cell = x.ask("bodyTold", b, 1);
            ask("share", b, cell, 0);
            ask("share", b, cell, 1);
            ask("share", b, cell ^ 1, 0);
        }
        for (int k = 0; k < lanes && seeker >= 0; k++) {
            ask("parted", 0, 1L << seeker, 1L << k, -1);
            ask("parted", bodies - 1, 1L << seeker, 1L << k, -1);
        }
        for (int h = hour; h < Math.min(240, hour + 20) && seeker >= 0; h++) {
            ask("comes", seeker, 0, 1, h);
        }
        ask("last", seeker, 0, 1);
        for (int b = 0; b < bodies && lanes > 0 && seeker >= 0; b++) {
            ask("flown", seeker, b, 0);
        }
        ask("fog", 0, 1, 0);
        ask("wind", 0, 1, 2222);
    }

    private void orders() {
        int men = x.has(8);
        for (int m = 0; m < men; m++) {
            ask("says", 0, m, 0);
        }
        for (int b = 0; b < bodies && men > 0; b++) {
            ask("first", b, 0);
            ask("first", b, 1);
        }
        int texts = x.has(11);
        for (int t = 0; t < texts; t++) {
            ask("force", t);
            ask("says", 0, 0, 0);
            ask("says", 1, seeker, 0);
        }
        int stories = x.has(9);
        for (int s = 1; s < stories; s++) {
            ask("clash", 0, s);
        }
        for (int n = 1; n <= 5; n += 2) {
            for (int i = -1; i < n; i++) {
                ask("days", n, 7 * n, i);
            }
        }
        ask("text");
        ask("force", x.has(11) - 1);
        ask("says", 0, 0, 0);
        ask("says", 1, seeker, 0);
    }

    private void sheets() {
        int last = bodies - 1;
        for (int s = 0; s < 4; s++) {
            int sort = -1;
            for (int k = 0; k < 3 && bodies > 0; k++) {
                sort = ask("fixes", last, s, k, 0, 0) == 0 ? k : sort;
            }
            int size = 0;
            for (int step = 32; step > 0; step /= 2) {
                size += ask("copy", s, 0, s, 0, size + step) >= 0 ? step : 0;
            }
            ask("copy", s, 0, s, 0, size);
            for (int i = 0; i + 1 < Math.min(size, 10) && bodies > 0; i++) {
                ask("fixes", last, s, sort, i, 1);
                ask("patch", last, hour, hour);
            }
        }
    }
}
