/** Each sentence of the document's promises 10 to 14 that names a boundary case, with a test of its own. */
public final class ThereEdgeTest {
    public static void main(String[] args) {
        toldWhat();
        toldAbsent();
        glareReturns();
        glareAbsent();
        aboutWhat();
        aboutAbsent();
        cometWhat();
        cometAbsent();
        countWhat();
        countAbsent();
        Check.end();
    }

    static void toldWhat() {
        Check.says("told", "`what`: 0 its part, 1 its level, 2 its aim, 3 its pace, 4 the life of its lamp");
        StarConsole x = new StarConsole();
        x.dimmer(11, 50, 9999);
        x.dimmer(0, 1, 2);
        x.fade(0, 100);
        x.fade(1, 100);
        x.pass(20);
        int[] most = {11, 100, 100, 50, 9999 - 5 - 190};
        int[] least = {0, 0, 100, 1, 0};
        for (int what = 0; what <= 4; what++) {
            Check.same("told(0, " + what + ")", x.told(0, what), most[what]);
            Check.same("told(1, " + what + "), burnt out", x.told(1, what), least[what]);
        }
    }

    static void toldAbsent() {
        Check.says("told", "Throws `IndexOutOfBoundsException` if there is no such dimmer, or what is not 0 to 4");
        StarConsole x = new StarConsole();
        Check.absent(x, "without dimmers", () -> x.told(0, 0));
        for (int size = 1; size <= 8; size++) {
            x.dimmer(size, 1, 5);
            for (int wrong : Check.outside(0, size - 1)) {
                Check.absent(x, size + " dimmers, told(" + wrong + ", 0)", () -> x.told(wrong, 0));
            }
            Check.same("the last one's part", x.told(size - 1, 0), size);
        }
        for (int wrong : Check.outside(0, 4)) {
            Check.absent(x, "told(0, " + wrong + ")", () -> x.told(0, wrong));
            Check.absent(x, "told(8, " + wrong + ")", () -> x.told(8, wrong));
        }
        Check.same("told(0, 0)", x.told(0, 0), 1);
        Check.same("told(0, 4)", x.told(0, 4), 5);
    }

    static void glareReturns() {
        Check.says("glare", "Returns its glare.");
        StarConsole x = new StarConsole();
        int[] levels = {100, 4, 40, 3};
        int[] parts = {11, 0, 1, 6};
        for (int i = 0; i < 4; i++) {
            x.dimmer(parts[i], 50, 9999);
            x.fade(i, levels[i]);
        }
        x.pass(2);
        int[] due = {4 + 25 + 10, 40 + 1, 10, 0, 0, 0, 3, 0, 0, 0, 25, 100 + 1};
        for (int part = 0; part <= 11; part++) {
            Check.same("glare(" + part + ")", x.glare(part), due[part]);
        }
    }

    static void glareAbsent() {
        Check.says("glare", "Throws `IndexOutOfBoundsException` if part is not 0 to 11");
        StarConsole x = new StarConsole();
        for (int wrong : Check.outside(0, 11)) {
            Check.absent(x, "glare(" + wrong + ")", () -> x.glare(wrong));
        }
        Check.same("glare(0)", x.glare(0), 0);
        Check.same("glare(11)", x.glare(11), 0);
    }

    static void aboutWhat() {
        Check.says("about", "`what`: 0 its degree, 1 its light, 2 where it stands, 3 1 if it is seen, else 0");
        StarConsole x = new StarConsole();
        x.dimmer(0, 50, 9999);
        x.fade(0, 40);
        x.star(359, 4);
        x.star(330, 4);
        x.star(329, 4);
        x.cue(0, 1, 0, 30);
        x.run();
        x.pass(1);
        int[][] due = {{359, 4, 29, 0}, {330, 4, 0, 0}, {329, 4, 359, 1}};
        for (int star = 0; star < 3; star++) {
            for (int what = 0; what <= 3; what++) {
                Check.same("about(" + star + ", " + what + ")", x.about(star, what), due[star][what]);
            }
        }
    }

    static void aboutAbsent() {
        Check.says("about", "Throws `IndexOutOfBoundsException` if there is no such star, or what is not 0 to 3");
        StarConsole x = new StarConsole();
        Check.absent(x, "without stars", () -> x.about(0, 0));
        for (int size = 1; size <= 20; size++) {
            x.star(size, 5);
            for (int wrong : Check.outside(0, size - 1)) {
                Check.absent(x, size + " stars, about(" + wrong + ", 0)", () -> x.about(wrong, 0));
            }
            Check.same("the last one's degree", x.about(size - 1, 0), size);
        }
        for (int wrong : Check.outside(0, 3)) {
            Check.absent(x, "about(0, " + wrong + ")", () -> x.about(0, wrong));
            Check.absent(x, "about(20, " + wrong + ")", () -> x.about(20, wrong));
        }
        Check.same("about(0, 0)", x.about(0, 0), 1);
        Check.same("about(0, 3)", x.about(0, 3), 1);
    }

    static void cometWhat() {
        Check.says("comet", "`what`: 0 its angle (of one that is gone its last one), 1 its speed, 2 the ticks that it has left, "
                + "3 1 if it is seen, else 0");
        StarConsole x = new StarConsole();
        x.cue(0, 2, 359, -20);
        x.run();
        for (int tick = 1; tick <= 22; tick++) {
            x.pass(1);
            int moves = Math.min(tick, 20);
            int[] due = {Math.floorMod(359 - 20 * moves, 360), -20, 20 - moves, tick < 20 ? 1 : 0};
            for (int what = 0; what <= 3; what++) {
                Check.same("behind " + tick + " ticks, comet(0, " + what + ")", x.comet(0, what), due[what]);
            }
        }
    }

    static void cometAbsent() {
        Check.says("comet", "Throws `IndexOutOfBoundsException` if there is no such comet, or what is not 0 to 3");
        StarConsole x = new StarConsole();
        for (int i = 0; i < 12; i++) {
            x.cue(2 * i, 2, i, 0);
        }
        x.run();
        for (int size = 0; size < 12; size++) {
            int next = size;
            Check.absent(x, size + " comets, comet(" + next + ", 0)", () -> x.comet(next, 0));
            Check.absent(x, size + " comets, comet(-1, 0)", () -> x.comet(-1, 0));
            x.pass(2);
            Check.same("the last one's angle", x.comet(size, 0), size);
        }
        for (int wrong : Check.outside(0, 11)) {
            Check.absent(x, "12 comets, comet(" + wrong + ", 0)", () -> x.comet(wrong, 0));
        }
        for (int wrong : Check.outside(0, 3)) {
            Check.absent(x, "comet(0, " + wrong + ")", () -> x.comet(0, wrong));
            Check.absent(x, "comet(12, " + wrong + ")", () -> x.comet(12, wrong));
        }
        Check.same("comet(0, 0) of one that is gone", x.comet(0, 0), 0);
        Check.same("comet(0, 3) of one that is gone", x.comet(0, 3), 0);
        Check.same("comet(11, 3)", x.comet(11, 3), 1);
    }

    static void countWhat() {
        Check.says("count", "`what`: 0 the tick, 1 the clock of the show, 2 1 if it runs, else 0, 3 dimmers, 4 stars, 5 comets in all, "
                + "6 cues, 7 stars that are seen, 8 comets that are seen, 9 the line that is spoken, "
                + "-1 if the narrator is silent, 10 the ticks that it has left, 0 without one, 11 the angle of the ball, "
                + "12 its speed");
        StarConsole x = new StarConsole();
        x.dimmer(0, 50, 9999);
        x.fade(0, 60);
        x.star(30, 1);
        x.star(60, 1);
        x.star(180, 9);
        x.cue(999, 1, 0, -30);
        x.cue(999, 2, 1, -1);
        x.cue(999, 2, 20, 20);
        x.cue(999, 3, 0, 3);
        x.jump(998);
        x.run();
        int[][] due = {
            {1, 999, 1, 1, 3, 0, 4, 2, 0, -1, 0, 0, 0},
            {2, 1000, 1, 1, 3, 2, 4, 1, 1, 0, 2, 330, -30},
            {3, 1001, 1, 1, 3, 2, 4, 1, 2, 0, 1, 300, -30},
            {4, 1002, 1, 1, 3, 2, 4, 2, 2, -1, 0, 270, -30},
        };
        for (int[] row : due) {
            x.pass(1);
            for (int what = 0; what <= 12; what++) {
                Check.same("tick " + row[0] + ", count(" + what + ")", x.count(what), row[what]);
            }
        }
    }

    static void countAbsent() {
        Check.says("count", "Throws `IndexOutOfBoundsException` if what is not 0 to 12");
        StarConsole x = new StarConsole();
        for (int wrong : Check.outside(0, 12)) {
            Check.absent(x, "count(" + wrong + ")", () -> x.count(wrong));
        }
        Check.same("count(0)", x.count(0), 0);
        Check.same("count(12)", x.count(12), 0);
    }
}
