/** Each sentence of the document's promises 1 to 5 that names a boundary case, with a test of its own. */
public final class SetUpEdgeTest {
    public static void main(String[] args) {
        newObject();
        dimmerReturns();
        dimmerInvalid();
        dimmerFull();
        lampReturns();
        lampAbsent();
        lampInvalid();
        starReturns();
        starInvalid();
        starFull();
        cueReturns();
        cueInvalid();
        cueInvalidByKind();
        cueFull();
        Check.end();
    }

    static void newObject() {
        Check.says("StarConsole", "Creates a console without dimmers, stars and cues.");
        StarConsole x = new StarConsole();
        int[] due = {0, 0, 0, 0, 0, 0, 0, 0, 0, -1, 0, 0, 0};
        for (int what = 0; what <= 12; what++) {
            Check.same("count(" + what + ")", x.count(what), due[what]);
        }
        for (int part = 0; part <= 11; part++) {
            Check.same("glare(" + part + ")", x.glare(part), 0);
        }
        Check.same("next()", x.next(), -1);
        Check.same("darkest()", x.darkest(), 0);
        Check.same("mean()", x.mean(), 0.0);
        Check.absent(x, "told(0, 0)", () -> x.told(0, 0));
        Check.absent(x, "about(0, 0)", () -> x.about(0, 0));
        Check.absent(x, "comet(0, 0)", () -> x.comet(0, 0));
        Check.absent(x, "when(0)", () -> x.when(0));
        Check.absent(x, "lasts(0)", () -> x.lasts(0));
        Check.same("pass(500)", x.pass(500), 0);
        StarConsole other = new StarConsole();
        x.star(0, 1);
        Check.same("another one has nothing of it", other.count(4), 0);
    }

    static void dimmerReturns() {
        Check.says("dimmer", "Returns its number.");
        StarConsole x = new StarConsole();
        for (int i = 0; i < 8; i++) {
            Check.same("dimmer " + i, x.dimmer(3, 1, 0), i);
            Check.same("count(3)", x.count(3), i + 1);
        }
    }

    static void dimmerInvalid() {
        Check.says("dimmer", "Throws `IllegalArgumentException` if part is not 0 to 11, pace is not 1 to 50, or life is not 0 to 9999");
        StarConsole x = new StarConsole();
        for (int wrong : Check.outside(0, 11)) {
            Check.invalid(x, "dimmer(" + wrong + ", 1, 0)", () -> x.dimmer(wrong, 1, 0));
        }
        for (int wrong : Check.outside(1, 50)) {
            Check.invalid(x, "dimmer(0, " + wrong + ", 0)", () -> x.dimmer(0, wrong, 0));
        }
        for (int wrong : Check.outside(0, 9999)) {
            Check.invalid(x, "dimmer(0, 1, " + wrong + ")", () -> x.dimmer(0, 1, wrong));
        }
        Check.same("dimmer(0, 1, 0)", x.dimmer(0, 1, 0), 0);
        Check.same("dimmer(11, 50, 9999)", x.dimmer(11, 50, 9999), 1);
        int[] least = {0, 0, 0, 1, 0};
        int[] most = {11, 0, 0, 50, 9999};
        for (int what = 0; what <= 4; what++) {
            Check.same("told(0, " + what + ")", x.told(0, what), least[what]);
            Check.same("told(1, " + what + ")", x.told(1, what), most[what]);
        }
    }

    static void dimmerFull() {
        Check.says("dimmer", "Throws `IllegalStateException` if there are 8");
        StarConsole x = new StarConsole();
        for (int i = 0; i < 7; i++) {
            x.dimmer(0, 1, 0);
        }
        Check.same("the eighth", x.dimmer(11, 50, 9999), 7);
        Check.full(x, "the ninth", () -> x.dimmer(0, 1, 0));
        Check.full(x, "the ninth once more", () -> x.dimmer(11, 50, 9999));
        Check.same("count(3)", x.count(3), 8);
    }

    static void lampReturns() {
        Check.says("lamp", "Returns that of the old one; without life its level is 0.");
        StarConsole x = new StarConsole();
        x.dimmer(0, 50, 9999);
        x.fade(0, 50);
        x.pass(1);
        Check.same("a lamp of 1 for one of 9994", x.lamp(0, 1), 9994);
        Check.same("the level with a life of 1", x.told(0, 1), 50);
        Check.same("a lamp of 0 for one of 1", x.lamp(0, 0), 1);
        Check.same("the level without life, at once", x.told(0, 1), 0);
        Check.same("the aim is as it was", x.told(0, 2), 50);
        Check.same("the glare", x.glare(0), 0);
        Check.same("a lamp of 0 for one of 0", x.lamp(0, 0), 0);
        Check.same("a lamp of 9999 for one of 0", x.lamp(0, 9999), 0);
        Check.same("the level with life again, before a tick", x.told(0, 1), 0);
        Check.same("a lamp of 9999 for one of 9999", x.lamp(0, 9999), 9999);
        x.pass(1);
        Check.same("the level behind a tick", x.told(0, 1), 50);
    }

    static void lampAbsent() {
        Check.says("lamp", "Throws `IndexOutOfBoundsException` if there is no such dimmer");
        StarConsole x = new StarConsole();
        Check.absent(x, "without dimmers", () -> x.lamp(0, 0));
        for (int size = 1; size <= 8; size++) {
            x.dimmer(0, 1, 5);
            for (int wrong : Check.outside(0, size - 1)) {
                Check.absent(x, size + " dimmers, lamp(" + wrong + ", 0)", () -> x.lamp(wrong, 0));
            }
            Check.same("the last one's", x.lamp(size - 1, 6), 5);
        }
        Check.same("the first one's", x.lamp(0, 5), 6);
    }

    static void lampInvalid() {
        Check.says("lamp", "Throws `IllegalArgumentException` if life is not 0 to 9999");
        StarConsole x = new StarConsole();
        x.dimmer(0, 1, 7);
        for (int wrong : Check.outside(0, 9999)) {
            Check.invalid(x, "lamp(0, " + wrong + ")", () -> x.lamp(0, wrong));
        }
        Check.same("lamp(0, 0)", x.lamp(0, 0), 7);
        Check.same("lamp(0, 9999)", x.lamp(0, 9999), 0);
        Check.same("told(0, 4)", x.told(0, 4), 9999);
    }

    static void starReturns() {
        Check.says("star", "Returns its number.");
        StarConsole x = new StarConsole();
        for (int i = 0; i < 20; i++) {
            Check.same("star " + i, x.star(5, 5), i);
            Check.same("count(4)", x.count(4), i + 1);
        }
    }

    static void starInvalid() {
        Check.says("star", "Throws `IllegalArgumentException` if degree is not 0 to 359, or light is not 1 to 9");
        StarConsole x = new StarConsole();
        for (int wrong : Check.outside(0, 359)) {
            Check.invalid(x, "star(" + wrong + ", 1)", () -> x.star(wrong, 1));
        }
        for (int wrong : Check.outside(1, 9)) {
            Check.invalid(x, "star(0, " + wrong + ")", () -> x.star(0, wrong));
        }
        Check.same("star(0, 1)", x.star(0, 1), 0);
        Check.same("star(359, 9)", x.star(359, 9), 1);
        Check.same("about(0, 0)", x.about(0, 0), 0);
        Check.same("about(0, 1)", x.about(0, 1), 1);
        Check.same("about(1, 0)", x.about(1, 0), 359);
        Check.same("about(1, 1)", x.about(1, 1), 9);
    }

    static void starFull() {
        Check.says("star", "Throws `IllegalStateException` if there are 20");
        StarConsole x = new StarConsole();
        for (int i = 0; i < 19; i++) {
            x.star(i, 1);
        }
        Check.same("the twentieth", x.star(0, 1), 19);
        Check.full(x, "one more", () -> x.star(0, 1));
        Check.full(x, "one more again", () -> x.star(359, 9));
        Check.same("count(4)", x.count(4), 20);
    }

    static void cueReturns() {
        Check.says("cue", "Returns its number.");
        StarConsole x = new StarConsole();
        for (int i = 0; i < 24; i++) {
            Check.same("cue " + i, x.cue(999 - i, 4, 0, 0), i);
            Check.same("count(6)", x.count(6), i + 1);
        }
        Check.same("one that was added later has the lesser time", x.next(), 23);
    }

    static void cueInvalid() {
        Check.says("cue", "Throws `IllegalArgumentException` if time is not 0 to 999, kind is not 0 to 4, "
                + "or a or b is not as this kind has it (for 0 also if there is no such dimmer)");
        StarConsole x = new StarConsole();
        x.dimmer(0, 1, 1);
        int[] rightB = {0, 0, 0, 1, 0};
        for (int kind = 0; kind <= 4; kind++) {
            int k = kind;
            for (int wrong : Check.outside(0, 999)) {
                Check.invalid(x, "cue(" + wrong + ", " + k + ", ..)", () -> x.cue(wrong, k, 0, rightB[k]));
            }
        }
        for (int wrong : Check.outside(0, 4)) {
            Check.invalid(x, "cue(0, " + wrong + ", 0, 0)", () -> x.cue(0, wrong, 0, 0));
            Check.invalid(x, "cue(0, " + wrong + ", 0, 1)", () -> x.cue(0, wrong, 0, 1));
        }
        for (int kind = 0; kind <= 4; kind++) {
            Check.same("at time 0", x.cue(0, kind, 0, rightB[kind]), 2 * kind);
            Check.same("at time 999", x.cue(999, kind, 0, rightB[kind]), 2 * kind + 1);
        }
    }

    /** A row: kind, least a, most a, least b, most b; there are 3 dimmers. */
    static void cueInvalidByKind() {
        Check.says("cue", "a or b is not as this kind has it (for 0 also if there is no such dimmer)");
        int[][] kinds = {{0, 0, 2, 0, 100}, {1, 0, 0, -30, 30}, {2, 0, 359, -20, 20}, {3, 0, 99, 1, 60}, {4, 0, 0, 0, 0}};
        StarConsole x = new StarConsole();
        Check.invalid(x, "a fade without dimmers", () -> x.cue(0, 0, 0, 0));
        for (int i = 0; i < 3; i++) {
            Check.invalid(x, "a fade of the dimmer that is next", () -> x.cue(0, 0, x.count(3), 0));
            x.dimmer(0, 1, 1);
        }
        for (int[] k : kinds) {
            for (int wrong : Check.outside(k[1], k[2])) {
                Check.invalid(x, "cue(0, " + k[0] + ", " + wrong + ", " + k[3] + ")", () -> x.cue(0, k[0], wrong, k[3]));
                Check.invalid(x, "cue(0, " + k[0] + ", " + wrong + ", " + k[4] + ")", () -> x.cue(0, k[0], wrong, k[4]));
            }
            for (int wrong : Check.outside(k[3], k[4])) {
                Check.invalid(x, "cue(0, " + k[0] + ", " + k[1] + ", " + wrong + ")", () -> x.cue(0, k[0], k[1], wrong));
                Check.invalid(x, "cue(0, " + k[0] + ", " + k[2] + ", " + wrong + ")", () -> x.cue(0, k[0], k[2], wrong));
            }
            int cues = x.count(6);
            Check.same("a and b at least", x.cue(0, k[0], k[1], k[3]), cues);
            Check.same("a at least, b at most", x.cue(0, k[0], k[1], k[4]), cues + 1);
            Check.same("a at most, b at least", x.cue(0, k[0], k[2], k[3]), cues + 2);
            Check.same("a and b at most", x.cue(0, k[0], k[2], k[4]), cues + 3);
        }
    }

    static void cueFull() {
        Check.says("cue", "Throws `IllegalStateException` if there are 24");
        StarConsole x = new StarConsole();
        for (int i = 0; i < 23; i++) {
            x.cue(0, 4, 0, 0);
        }
        Check.same("the last one", x.cue(0, 4, 0, 0), 23);
        Check.full(x, "one more", () -> x.cue(0, 4, 0, 0));
        x.run();
        Check.same("all are run", x.pass(1), 24);
        Check.full(x, "one more when all have been run", () -> x.cue(0, 4, 0, 0));
        Check.same("count(6)", x.count(6), 24);
    }
}
