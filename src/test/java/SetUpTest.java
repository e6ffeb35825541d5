import java.lang.reflect.Constructor;
import java.lang.reflect.Field;
import java.lang.reflect.Method;
import java.lang.reflect.Modifier;
import java.util.List;
import java.util.Set;
import java.util.TreeSet;

/** The public face, and promises 2 to 5: dimmer, lamp, star, cue. */
public final class SetUpTest {
    private static final String INVALID = "java.lang.IllegalArgumentException";
    private static final String FULL = "java.lang.IllegalStateException";
    private static final String ABSENT = "java.lang.IndexOutOfBoundsException";

    /** "The public face", with the exceptions that each method names, in their order. */
    private static final Set<String> FACE = new TreeSet<>(List.of(
            method("int", "dimmer(int,int,int)", INVALID, FULL),
            method("int", "lamp(int,int)", ABSENT, INVALID),
            method("int", "star(int,int)", INVALID, FULL),
            method("int", "cue(int,int,int,int)", INVALID, FULL),
            method("boolean", "run()"),
            method("int", "jump(int)", INVALID),
            method("int", "fade(int,int)", ABSENT, INVALID),
            method("int", "pass(int)", INVALID),
            method("int", "told(int,int)", ABSENT),
            method("int", "glare(int)", ABSENT),
            method("int", "about(int,int)", ABSENT),
            method("int", "comet(int,int)", ABSENT),
            method("int", "count(int)", ABSENT),
            method("int", "next()"),
            method("int", "when(int)", ABSENT),
            method("int", "lasts(int)", ABSENT),
            method("int", "foresee(int,int)", INVALID, ABSENT),
            method("int", "darkest()"),
            method("double", "mean()"),
            method("long", "digest()")));

    public static void main(String[] args) {
        face();
        dimmerNumbers();
        lampChanges();
        starNumbers();
        cueNumbers();
        Check.end();
    }

    private static String method(String type, String sign, String... thrown) {
        String head = "public " + type + " StarConsole." + sign;
        return thrown.length == 0 ? head : head + " throws " + String.join(",", thrown);
    }

    static void face() {
        Set<String> names = new TreeSet<>();
        Set<String> got = new TreeSet<>();
        for (Method m : StarConsole.class.getDeclaredMethods()) {
            if (!Modifier.isPrivate(m.getModifiers())) {
                got.add(m.toGenericString());
                names.add(m.getName());
            }
        }
        Check.same("methods of the face", got, FACE);
        for (Method m : StarConsole.class.getDeclaredMethods()) {
            if (Modifier.isPrivate(m.getModifiers())) {
                Check.same("a private method is named " + m.getName(), names.contains(m.getName()), false);
            }
        }
        Check.same("modifiers of the class", StarConsole.class.getModifiers(), Modifier.PUBLIC | Modifier.FINAL);
        for (Field f : StarConsole.class.getDeclaredFields()) {
            Check.same("field " + f.getName() + " is private", Modifier.isPrivate(f.getModifiers()), true);
        }
        Constructor<?>[] made = StarConsole.class.getDeclaredConstructors();
        Check.same("constructors", made.length, 1);
        Check.same("the constructor", made[0].toGenericString(), "public StarConsole()");
    }

    static void dimmerNumbers() {
        StarConsole x = new StarConsole();
        for (int i = 0; i < 8; i++) {
            Check.same("dimmer " + i, x.dimmer(i, i + 1, 10 * i), i);
            Check.same("dimmers then", x.count(3), i + 1);
        }
        Check.full(x, "a ninth dimmer", () -> x.dimmer(0, 1, 1));
        Check.invalid(x, "a ninth dimmer of a wrong part", () -> x.dimmer(12, 1, 1));
        Check.invalid(x, "a ninth dimmer of a wrong pace", () -> x.dimmer(0, 0, 1));
        Check.invalid(x, "a ninth dimmer of a wrong life", () -> x.dimmer(0, 1, -1));
        for (int i = 0; i < 8; i++) {
            int[] due = {i, 0, 0, i + 1, 10 * i};
            for (int what = 0; what < 5; what++) {
                Check.same("told(" + i + ", " + what + ")", x.told(i, what), due[what]);
            }
        }
    }

    static void lampChanges() {
        StarConsole x = new StarConsole();
        x.dimmer(3, 40, 500);
        x.dimmer(3, 40, 500);
        x.fade(0, 100);
        x.pass(1);
        Check.same("lamp(0, 9999)", x.lamp(0, 9999), 496);
        Check.same("the level with a new lamp", x.told(0, 1), 40);
        Check.same("lamp(0, 0)", x.lamp(0, 0), 9999);
        Check.same("the level without life", x.told(0, 1), 0);
        Check.same("the aim without life", x.told(0, 2), 100);
        Check.same("the life", x.told(0, 4), 0);
        x.pass(3);
        Check.same("the level stays 0", x.told(0, 1), 0);
        Check.same("lamp(0, 20)", x.lamp(0, 20), 0);
        Check.same("the level is still 0", x.told(0, 1), 0);
        x.pass(1);
        Check.same("it goes on to its aim", x.told(0, 1), 40);
        Check.same("its life", x.told(0, 4), 16);
        Check.same("the other lamp", x.told(1, 4), 500);
    }

    static void starNumbers() {
        StarConsole x = new StarConsole();
        for (int i = 0; i < 20; i++) {
            Check.same("star " + i, x.star(i == 19 ? 359 : i * 18, i % 9 + 1), i);
            Check.same("stars then", x.count(4), i + 1);
        }
        Check.full(x, "a star too many", () -> x.star(0, 1));
        Check.invalid(x, "a star too many at a wrong degree", () -> x.star(360, 1));
        Check.invalid(x, "a star too many of a wrong light", () -> x.star(0, 0));
        Check.same("degree of star 19", x.about(19, 0), 359);
        Check.same("degree of star 7", x.about(7, 0), 126);
        Check.same("light of star 8", x.about(8, 1), 9);
    }

    static void cueNumbers() {
        StarConsole x = new StarConsole();
        for (int i = 0; i < 24; i++) {
            Check.same("cue " + i, x.cue(i, 4, 0, 0), i);
            Check.same("cues then", x.count(6), i + 1);
        }
        Check.full(x, "a cue too many", () -> x.cue(0, 4, 0, 0));
        Check.invalid(x, "a cue too many at a wrong time", () -> x.cue(1000, 4, 0, 0));
        Check.invalid(x, "a cue too many of a wrong kind", () -> x.cue(0, 5, 0, 0));
        Check.invalid(x, "a cue too many of a wrong a", () -> x.cue(0, 4, 1, 0));
        Check.invalid(x, "a cue too many for no dimmer", () -> x.cue(0, 0, 0, 0));
    }
}
