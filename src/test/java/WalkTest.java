/** Walks of 512 calls, the same in every run, with right and wrong arguments, each answer held against the model. */
public final class WalkTest {
    private static final String[] NAMES = {
        "dimmer", "lamp", "star", "cue", "run", "jump", "fade", "pass", "told", "glare", "about", "comet", "count",
        "next", "when", "lasts", "foresee", "darkest", "mean", "digest",
    };
    private static final int CALLS = 512;
    private static final int WALKS = 400;
    private static final int[] FAR = {Integer.MIN_VALUE, -1000, -1, 10000, Integer.MAX_VALUE};
    private static long seed = 20;

    public static void main(String[] args) {
        for (int walk = 0; walk < WALKS; walk++) {
            walk(walk);
        }
        Check.end();
    }

    private static void walk(int walk) {
        StarConsole x = new StarConsole();
        Model m = new Model();
        for (int i = 0; i < CALLS; i++) {
            String name = i % 16 == 15 ? "digest" : i < 60 ? NAMES[upTo(7)] : NAMES[upTo(NAMES.length - 1)];
            int[] p = arguments(name, walk % 2 == 0 ? 30 : 999);
            if (upTo(29) == 0 && p.length > 0) {
                p[upTo(p.length - 1)] = FAR[upTo(FAR.length - 1)];
            }
            String call = "walk " + walk + ", call " + i + ": " + name + java.util.Arrays.toString(p);
            Check.same(call, ask(x, name, p), m.ask(name, p));
        }
    }

    private static int upTo(int most) {
        seed = seed * 6364136223846793005L + 1442695040888963407L;
        return (int) ((seed >>> 33) % (most + 1));
    }

    /** Mostly right ones, and now and then one just beyond an edge. */
    private static int[] arguments(String name, int lastTime) {
        switch (name) {
            case "dimmer": return new int[] {upTo(3) == 0 ? upTo(12) : 5 + upTo(1), upTo(51), upTo(2) == 0 ? upTo(99) : upTo(10000)};
            case "lamp": return new int[] {upTo(8), upTo(1) == 0 ? upTo(60) : upTo(9) * 1000};
            case "star": return new int[] {upTo(360), upTo(10)};
            case "cue": return cueArguments(lastTime);
            case "jump": return new int[] {upTo(3) == 0 ? upTo(1001) : upTo(lastTime)};
            case "fade": return new int[] {upTo(8), upTo(101)};
            case "pass": return new int[] {upTo(9) == 0 ? upTo(501) : upTo(12)};
            case "told": return new int[] {upTo(8), upTo(5)};
            case "glare": return new int[] {upTo(12)};
            case "about": return new int[] {upTo(20), upTo(4)};
            case "comet": return new int[] {upTo(12), upTo(4)};
            case "count": return new int[] {upTo(13)};
            case "when": return new int[] {upTo(24)};
            case "lasts": return new int[] {upTo(8)};
            case "foresee": return new int[] {upTo(1) == 0 ? upTo(501) : upTo(20), new int[] {1, 5, 7, 8, 11, upTo(13)}[upTo(5)]};
            default: return new int[0];
        }
    }

    private static int[] cueArguments(int lastTime) {
        int kind = upTo(9) == 0 ? upTo(5) : upTo(3);
        int time = upTo(lastTime);
        switch (kind) {
            case 0: return new int[] {time, 0, upTo(8), upTo(101)};
            case 1: return new int[] {time, 1, upTo(9) / 9, upTo(62) - 31};
            case 2: return new int[] {time, 2, upTo(360), upTo(42) - 21};
            case 3: return new int[] {time, 3, upTo(100), upTo(61)};
            default: return new int[] {time, kind, upTo(9) / 9, upTo(9) / 9};
        }
    }

    private static String ask(StarConsole x, String name, int[] p) {
        try {
            return "" + answer(x, name, p);
        } catch (RuntimeException e) {
            return "!" + e.getClass().getSimpleName();
        }
    }

    private static Object answer(StarConsole x, String name, int[] p) {
        switch (name) {
            case "dimmer": return x.dimmer(p[0], p[1], p[2]);
            case "lamp": return x.lamp(p[0], p[1]);
            case "star": return x.star(p[0], p[1]);
            case "cue": return x.cue(p[0], p[1], p[2], p[3]);
            case "run": return x.run();
            case "jump": return x.jump(p[0]);
            case "fade": return x.fade(p[0], p[1]);
            case "pass": return x.pass(p[0]);
            case "told": return x.told(p[0], p[1]);
            case "glare": return x.glare(p[0]);
            case "about": return x.about(p[0], p[1]);
            case "comet": return x.comet(p[0], p[1]);
            case "count": return x.count(p[0]);
            case "next": return x.next();
            case "when": return x.when(p[0]);
            case "lasts": return x.lasts(p[0]);
            case "foresee": return x.foresee(p[0], p[1]);
            case "darkest": return x.darkest();
            case "mean": return x.mean();
            default: return x.digest();
        }
    }
}
