import java.lang.reflect.Constructor;
import java.lang.reflect.Field;
import java.lang.reflect.Method;
import java.lang.reflect.Modifier;
import java.util.Set;
import java.util.TreeSet;

/** The public face, and promises 1 to 5: a new object, dimmer, lamp, star, cue. */
public final class SetUpTest {
    public static void main(String[] args) {
        face();
        newObject();
        dimmerRefuses();
        dimmerNumbers();
        dimmerEdges();
        lampRefuses();
        lampChanges();
        starRefuses();
        starNumbers();
        cueRefusesOfEveryKind();
        cueRefusesByKind();
        cueTakesEdges();
        cueNumbers();
        Check.end();
    }

    static void face() {
        Set<String> due = new TreeSet<>(Set.of(
                "int dimmer 3", "int lamp 2", "int star 2", "int cue 4", "boolean run 0", "int jump 1",
                "int fade 2", "int pass 1"));
        due.addAll(Set.of("int told 2", "int glare 1", "int about 2", "int comet 2", "int count 1"));
        due.addAll(Set.of("int next 0", "int when 1", "int lasts 1", "int foresee 2", "int darkest 0",
                "double mean 0", "long digest 0"));
        Set<String> names = new TreeSet<>();
        for (String sign : due) {
            names.add(sign.split(" ")[1]);
        }
        Set<String> got = new TreeSet<>();
        for (Method m : StarConsole.class.getDeclaredMethods()) {
            if (!Modifier.isPrivate(m.getModifiers())) {
                got.add(m.getReturnType() + " " + m.getName() + " " + m.getParameterCount());
            } else {
                Check.same("a private method is named " + m.getName(), names.contains(m.getName()), false);
            }
        }
        Check.same("methods of the face", got, due);
        Check.same("modifiers of the class", StarConsole.class.getModifiers(), Modifier.PUBLIC | Modifier.FINAL);
        for (Field f : StarConsole.class.getDeclaredFields()) {
            Check.same("field " + f.getName() + " is private", Modifier.isPrivate(f.getModifiers()), true);
        }
        Constructor<?>[] made = StarConsole.class.getDeclaredConstructors();
        Check.same("constructors", made.length, 1);
        Check.same("parameters of the constructor", made[0].getParameterCount(), 0);
    }

    static void newObject() {
        StarConsole x = new StarConsole();
        for (int what = 0; what <= 12; what++) {
            Check.same("new: count(" + what + ")", x.count(what), what == 9 ? -1 : 0);
        }
        for (int part = 0; part < 12; part++) {
            Check.same("new: glare(" + part + ")", x.glare(part), 0);
        }
        Check.same("new: next()", x.next(), -1);
        Check.same("new: darkest()", x.darkest(), 0);
        Check.same("new: mean()", x.mean(), 0.0);
        Check.absent(x, "new: told(0, 0)", () -> x.told(0, 0));
        Check.absent(x, "new: about(0, 0)", () -> x.about(0, 0));
        Check.absent(x, "new: comet(0, 0)", () -> x.comet(0, 0));
        Check.absent(x, "new: when(0)", () -> x.when(0));
        Check.absent(x, "new: lasts(0)", () -> x.lasts(0));
    }

    static void dimmerRefuses() {
        StarConsole x = new StarConsole();
        int[] parts = {-1, 12, Integer.MIN_VALUE, Integer.MAX_VALUE};
        int[] paces = {0, 51, -1, Integer.MIN_VALUE, Integer.MAX_VALUE};
        int[] lives = {-1, 10000, Integer.MIN_VALUE, Integer.MAX_VALUE};
        for (int part : parts) {
            Check.invalid(x, "dimmer of part " + part, () -> x.dimmer(part, 1, 1));
        }
        for (int pace : paces) {
            Check.invalid(x, "dimmer of pace " + pace, () -> x.dimmer(0, pace, 1));
        }
        for (int life : lives) {
            Check.invalid(x, "dimmer of life " + life, () -> x.dimmer(0, 1, life));
        }
        Check.same("dimmers after refusals", x.count(3), 0);
    }

    static void dimmerNumbers() {
        StarConsole x = new StarConsole();
        for (int i = 0; i < 8; i++) {
            Check.same("dimmer " + i, x.dimmer(i, i + 1, 10 * i), i);
            Check.same("dimmers then", x.count(3), i + 1);
        }
        Check.full(x, "a ninth dimmer", () -> x.dimmer(0, 1, 1));
        Check.invalid(x, "a ninth dimmer of a wrong part", () -> x.dimmer(12, 1, 1));
        Check.invalid(x, "a ninth dimmer of a wrong pace", () -> x.dimmer(0, 0, 1));
        Check.invalid(x, "a ninth dimmer of a wrong life", () -> x.dimmer(0, 1, -1));
        for (int i = 0; i < 8; i++) {
            int[] due = {i, 0, 0, i + 1, 10 * i};
            for (int what = 0; what < 5; what++) {
                Check.same("told(" + i + ", " + what + ")", x.told(i, what), due[what]);
            }
        }
    }

    static void dimmerEdges() {
        StarConsole x = new StarConsole();
        Check.same("dimmer(0, 1, 0)", x.dimmer(0, 1, 0), 0);
        Check.same("dimmer(11, 50, 9999)", x.dimmer(11, 50, 9999), 1);
        Check.same("told(0, 4)", x.told(0, 4), 0);
        Check.same("told(1, 0)", x.told(1, 0), 11);
        Check.same("told(1, 3)", x.told(1, 3), 50);
        Check.same("told(1, 4)", x.told(1, 4), 9999);
    }

    static void lampRefuses() {
        StarConsole x = new StarConsole();
        x.dimmer(0, 1, 77);
        int[] lives = {-1, 10000, Integer.MIN_VALUE, Integer.MAX_VALUE};
        for (int life : lives) {
            Check.invalid(x, "lamp of life " + life, () -> x.lamp(0, life));
        }
        int[] dimmers = {-1, 1, 8, Integer.MIN_VALUE, Integer.MAX_VALUE};
        for (int dimmer : dimmers) {
            Check.absent(x, "lamp of " + dimmer, () -> x.lamp(dimmer, 1));
            Check.absent(x, "lamp of " + dimmer + ", a wrong life too", () -> x.lamp(dimmer, -1));
        }
    }

    static void lampChanges() {
        StarConsole x = new StarConsole();
        x.dimmer(3, 40, 500);
        x.dimmer(3, 40, 500);
        x.fade(0, 100);
        x.pass(1);
        Check.same("lamp(0, 9999)", x.lamp(0, 9999), 496);
        Check.same("the level with a new lamp", x.told(0, 1), 40);
        Check.same("lamp(0, 0)", x.lamp(0, 0), 9999);
        Check.same("the level without life", x.told(0, 1), 0);
        Check.same("the aim without life", x.told(0, 2), 100);
        Check.same("the life", x.told(0, 4), 0);
        x.pass(3);
        Check.same("the level stays 0", x.told(0, 1), 0);
        Check.same("lamp(0, 20)", x.lamp(0, 20), 0);
        Check.same("the level is still 0", x.told(0, 1), 0);
        x.pass(1);
        Check.same("it goes on to its aim", x.told(0, 1), 40);
        Check.same("its life", x.told(0, 4), 16);
        Check.same("the other lamp", x.told(1, 4), 500);
    }

    static void starRefuses() {
        StarConsole x = new StarConsole();
        int[] degrees = {-1, 360, Integer.MIN_VALUE, Integer.MAX_VALUE};
        int[] lights = {0, 10, -1, Integer.MIN_VALUE, Integer.MAX_VALUE};
        for (int degree : degrees) {
            Check.invalid(x, "star at " + degree, () -> x.star(degree, 1));
        }
        for (int light : lights) {
            Check.invalid(x, "star of light " + light, () -> x.star(0, light));
        }
        Check.same("stars after refusals", x.count(4), 0);
    }

    static void starNumbers() {
        StarConsole x = new StarConsole();
        for (int i = 0; i < 20; i++) {
            Check.same("star " + i, x.star(i == 19 ? 359 : i * 18, i % 9 + 1), i);
            Check.same("stars then", x.count(4), i + 1);
        }
        Check.full(x, "a star too many", () -> x.star(0, 1));
        Check.invalid(x, "a star too many at a wrong degree", () -> x.star(360, 1));
        Check.invalid(x, "a star too many of a wrong light", () -> x.star(0, 0));
        Check.same("degree of star 19", x.about(19, 0), 359);
        Check.same("degree of star 7", x.about(7, 0), 126);
        Check.same("light of star 8", x.about(8, 1), 9);
    }

    static void cueRefusesOfEveryKind() {
        StarConsole x = new StarConsole();
        x.dimmer(0, 1, 1);
        int[] times = {-1, 1000, Integer.MIN_VALUE, Integer.MAX_VALUE};
        int[] bs = {0, 0, 0, 1, 0};
        for (int time : times) {
            for (int kind = 0; kind < 5; kind++) {
                int k = kind;
                Check.invalid(x, "cue at " + time + " of kind " + k, () -> x.cue(time, k, 0, bs[k]));
            }
        }
        int[] kinds = {-1, 5, Integer.MIN_VALUE, Integer.MAX_VALUE};
        for (int kind : kinds) {
            Check.invalid(x, "cue of kind " + kind, () -> x.cue(0, kind, 0, 0));
        }
        Check.same("cues after refusals", x.count(6), 0);
    }

    static void cueRefusesByKind() {
        StarConsole x = new StarConsole();
        Check.invalid(x, "fade of no dimmer", () -> x.cue(0, 0, 0, 50));
        x.dimmer(0, 1, 1);
        x.dimmer(0, 1, 1);
        int min = Integer.MIN_VALUE;
        int max = Integer.MAX_VALUE;
        int[][] wrong = {
            {0, -1, 0}, {0, 2, 0}, {0, min, 0}, {0, max, 0}, {0, 0, -1}, {0, 0, 101}, {0, 0, min}, {0, 0, max},
            {1, 1, 0}, {1, -1, 0}, {1, 0, -31}, {1, 0, 31}, {1, 0, min}, {1, 0, max},
            {2, -1, 0}, {2, 360, 0}, {2, 0, -21}, {2, 0, 21}, {2, min, 0}, {2, max, 0}, {2, 0, min}, {2, 0, max},
            {3, -1, 1}, {3, 100, 1}, {3, 0, 0}, {3, 0, 61}, {3, 0, -1}, {3, min, 1}, {3, max, 1}, {3, 0, max},
            {4, 1, 0}, {4, -1, 0}, {4, 0, 1}, {4, 0, -1}, {4, min, 0}, {4, 0, max},
        };
        for (int[] w : wrong) {
            Check.invalid(x, "cue(0, " + w[0] + ", " + w[1] + ", " + w[2] + ")", () -> x.cue(0, w[0], w[1], w[2]));
        }
        Check.same("cues after refusals", x.count(6), 0);
    }

    static void cueTakesEdges() {
        StarConsole x = new StarConsole();
        x.dimmer(0, 1, 1);
        x.dimmer(0, 1, 1);
        int[][] right = {
            {0, 0, 0, 0}, {999, 0, 1, 100}, {0, 1, 0, -30}, {0, 1, 0, 30}, {0, 2, 0, -20}, {0, 2, 359, 20},
            {0, 3, 0, 1}, {0, 3, 99, 60}, {999, 4, 0, 0},
        };
        for (int i = 0; i < right.length; i++) {
            int[] r = right[i];
            Check.same("cue at an edge", x.cue(r[0], r[1], r[2], r[3]), i);
        }
    }

    static void cueNumbers() {
        StarConsole x = new StarConsole();
        for (int i = 0; i < 24; i++) {
            Check.same("cue " + i, x.cue(i, 4, 0, 0), i);
            Check.same("cues then", x.count(6), i + 1);
        }
        Check.full(x, "a cue too many", () -> x.cue(0, 4, 0, 0));
        Check.invalid(x, "a cue too many at a wrong time", () -> x.cue(1000, 4, 0, 0));
        Check.invalid(x, "a cue too many of a wrong kind", () -> x.cue(0, 5, 0, 0));
        Check.invalid(x, "a cue too many of a wrong a", () -> x.cue(0, 4, 1, 0));
        Check.invalid(x, "a cue too many for no dimmer", () -> x.cue(0, 0, 0, 0));
    }
}
