import java.util.ArrayList;
import java.util.List;

/**
 * The document once more, in another way: things in lists, each look ahead by a copy that really goes on,
 * each answer as a text ("!" and the exception's name, where one is due).
 */
final class Model {
    private static final String INVALID = "!IllegalArgumentException";
    private static final String FULL = "!IllegalStateException";
    private static final String ABSENT = "!IndexOutOfBoundsException";

    private final List<int[]> dimmers = new ArrayList<>();
    private final List<int[]> stars = new ArrayList<>();
    private final List<int[]> comets = new ArrayList<>();
    private final List<int[]> cues = new ArrayList<>();
    private final List<Integer> ran = new ArrayList<>();
    private int tick;
    private int clock;
    private boolean runs;
    private int angle;
    private int speed;
    private int line = -1;
    private int speech;

    private Model copy() {
        Model m = new Model();
        dimmers.forEach(d -> m.dimmers.add(d.clone()));
        comets.forEach(c -> m.comets.add(c.clone()));
        m.stars.addAll(stars);
        m.cues.addAll(cues);
        m.tick = tick;
        m.clock = clock;
        m.runs = runs;
        m.angle = angle;
        m.speed = speed;
        m.line = line;
        m.speech = speech;
        return m;
    }

    private void goOn() {
        if (runs) {
            for (int i = 0; i < cues.size(); i++) {
                int[] c = cues.get(i);
                if (c[0] == clock) {
                    ran.add(i);
                    if (c[1] == 0) {
                        dimmers.get(c[2])[2] = c[3];
                    } else if (c[1] == 1) {
                        speed = c[3];
                    } else if (c[1] == 2 && comets.size() < 12) {
                        comets.add(new int[] {c[2], c[3], 20});
                    } else if (c[1] == 3) {
                        line = c[2];
                        speech = c[3];
                    } else if (c[1] == 4) {
                        runs = false;
                    }
                }
            }
            clock++;
        }
        for (int[] d : dimmers) {
            int way = d[2] - d[1];
            d[1] += Integer.signum(way) * Math.min(Math.abs(way), d[3]);
            d[4] -= Math.min(d[4], d[1] / 10);
            d[1] = d[4] == 0 ? 0 : d[1];
        }
        angle = (angle + speed + 360) % 360;
        for (int[] c : comets) {
            if (c[2] != 0) {
                c[0] = (c[0] + c[1] + 360) % 360;
                c[2]--;
            }
        }
        if (line >= 0 && --speech == 0) {
            line = -1;
        }
        tick++;
    }

    String ask(String name, int[] p) {
        switch (name) {
            case "dimmer":
                return bad(p[0], 0, 11) || bad(p[1], 1, 50) || bad(p[2], 0, 9999) ? INVALID
                        : dimmers.size() == 8 ? FULL : added(dimmers, p[0], 0, 0, p[1], p[2]);
            case "lamp":
                return bad(p[0], 0, dimmers.size() - 1) ? ABSENT : bad(p[1], 0, 9999) ? INVALID : lamp(dimmers.get(p[0]), p[1]);
            case "star":
                return bad(p[0], 0, 359) || bad(p[1], 1, 9) ? INVALID : stars.size() == 20 ? FULL : added(stars, p);
            case "cue":
                return bad(p[0], 0, 999) || badCue(p[1], p[2], p[3]) ? INVALID : cues.size() == 24 ? FULL : added(cues, p);
            case "run":
                runs = !runs;
                return "" + runs;
            case "jump":
                return bad(p[0], 0, 1000) ? INVALID : jump(p[0]);
            case "fade":
                return bad(p[0], 0, dimmers.size() - 1) ? ABSENT : bad(p[1], 0, 100) ? INVALID : fade(dimmers.get(p[0]), p[1]);
            case "pass":
                return bad(p[0], 1, 500) ? INVALID : "" + pass(p[0]);
            default:
                return look(name, p);
        }
    }

    private String look(String name, int[] p) {
        switch (name) {
            case "told":
                return bad(p[0], 0, dimmers.size() - 1) || bad(p[1], 0, 4) ? ABSENT : "" + dimmers.get(p[0])[p[1]];
            case "glare":
                return bad(p[0], 0, 11) ? ABSENT : "" + brightness(p[0]);
            case "about":
                return bad(p[0], 0, stars.size() - 1) || bad(p[1], 0, 3) ? ABSENT : "" + starFacts(stars.get(p[0]))[p[1]];
            case "comet":
                return bad(p[0], 0, comets.size() - 1) || bad(p[1], 0, 3) ? ABSENT : "" + cometFacts(comets.get(p[0]))[p[1]];
            case "count":
                return bad(p[0], 0, 12) ? ABSENT : "" + counts()[p[0]];
            case "next":
                return "" + following();
            case "when":
                return bad(p[0], 0, cues.size() - 1) ? ABSENT : "" + ticksTo(p[0]);
            case "lasts":
                return bad(p[0], 0, dimmers.size() - 1) ? ABSENT : "" + ticksOfLife(p[0]);
            case "foresee":
                return bad(p[0], 1, 500) ? INVALID : !List.of(1, 5, 7, 8, 11).contains(p[1]) ? ABSENT : "" + foreseen(p[0], p[1]);
            case "darkest":
                return "" + leastBright();
            case "mean":
                return "" + sum() / 12.0;
            default:
                return "" + checksum();
        }
    }

    private static boolean bad(int x, int least, int most) {
        return x < least || most < x;
    }

    private boolean badCue(int kind, int a, int b) {
        return bad(kind, 0, 4)
                || kind == 0 && (bad(a, 0, dimmers.size() - 1) || bad(b, 0, 100))
                || kind == 1 && (a != 0 || bad(b, -30, 30))
                || kind == 2 && (bad(a, 0, 359) || bad(b, -20, 20))
                || kind == 3 && (bad(a, 0, 99) || bad(b, 1, 60))
                || kind == 4 && (a != 0 || b != 0);
    }

    private static String added(List<int[]> list, int... x) {
        list.add(x.clone());
        return "" + (list.size() - 1);
    }

    private static String lamp(int[] d, int life) {
        int before = d[4];
        d[4] = life;
        d[1] = life == 0 ? 0 : d[1];
        return "" + before;
    }

    private static String fade(int[] d, int aim) {
        int before = d[2];
        d[2] = aim;
        return "" + before;
    }

    private String jump(int time) {
        int before = clock;
        clock = time;
        return "" + before;
    }

    private int pass(int ticks) {
        ran.clear();
        for (int i = 0; i < ticks; i++) {
            goOn();
        }
        return ran.size();
    }

    private int brightness(int part) {
        int sum = 0;
        for (int[] d : dimmers) {
            sum += d[0] == part ? d[1] : d[0] == (part + 1) % 12 || part == (d[0] + 1) % 12 ? d[1] / 4 : 0;
        }
        return sum;
    }

    private int sum() {
        int sum = 0;
        for (int part = 0; part < 12; part++) {
            sum += brightness(part);
        }
        return sum;
    }

    private int leastBright() {
        int least = 11;
        for (int part = 10; part >= 0; part--) {
            least = brightness(part) <= brightness(least) ? part : least;
        }
        return least;
    }

    private int[] starFacts(int[] s) {
        int stands = (s[0] + angle) % 360;
        return new int[] {s[0], s[1], stands, 10 * s[1] > brightness(stands / 30) ? 1 : 0};
    }

    private int[] cometFacts(int[] c) {
        return new int[] {c[0], c[1], c[2], c[2] > 0 && 60 > brightness(c[0] / 30) ? 1 : 0};
    }

    private int[] counts() {
        int starsSeen = stars.stream().mapToInt(s -> starFacts(s)[3]).sum();
        int cometsSeen = comets.stream().mapToInt(c -> cometFacts(c)[3]).sum();
        return new int[] {tick, clock, runs ? 1 : 0, dimmers.size(), stars.size(), comets.size(), cues.size(),
            starsSeen, cometsSeen, line, line < 0 ? 0 : speech, angle, speed};
    }

    private int following() {
        for (int time = clock; time < 1000; time++) {
            for (int i = 0; i < cues.size(); i++) {
                if (cues.get(i)[0] == time) {
                    return i;
                }
            }
        }
        return -1;
    }

    private int ticksTo(int cue) {
        Model m = copy();
        for (int t = 1; t <= 1000; t++) {
            m.goOn();
            if (m.ran.contains(cue)) {
                return t;
            }
        }
        return -1;
    }

    private int ticksOfLife(int dimmer) {
        Model m = copy();
        int t = 0;
        while (t < 500 && m.dimmers.get(dimmer)[4] > 0) {
            m.goOn();
            t++;
        }
        return m.dimmers.get(dimmer)[4] == 0 ? t : -1;
    }

    private int foreseen(int ticks, int what) {
        Model m = copy();
        m.pass(ticks);
        return m.counts()[what];
    }

    private long checksum() {
        List<int[]> rows = new ArrayList<>();
        rows.add(counts());
        for (int part = 0; part < 12; part++) {
            rows.add(new int[] {brightness(part)});
        }
        rows.addAll(dimmers);
        stars.forEach(s -> rows.add(starFacts(s)));
        comets.forEach(c -> rows.add(cometFacts(c)));
        rows.addAll(cues);
        long d = 1109;
        for (int[] row : rows) {
            for (int x : row) {
                d = d * 31 + x;
            }
        }
        return d;
    }
}
