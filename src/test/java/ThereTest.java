/** Promises 10 to 14: told, glare, about, comet, count. */
public final class ThereTest {
    public static void main(String[] args) {
        toldTells();
        glareAddsNeighbours();
        aboutTells();
        starIsSeenAtTheEdge();
        cometTells();
        cometIsSeenAtTheEdge();
        countTells();
        Check.end();
    }

    static void toldTells() {
        StarConsole x = new StarConsole();
        x.dimmer(4, 3, 44);
        x.dimmer(7, 25, 300);
        x.fade(1, 80);
        x.pass(2);
        int[] due = {7, 50, 80, 25, 293};
        int[] other = {4, 0, 0, 3, 44};
        for (int what = 0; what < 5; what++) {
            Check.same("told(1, " + what + ")", x.told(1, what), due[what]);
            Check.same("told(0, " + what + ")", x.told(0, what), other[what]);
        }
    }

    static void glareAddsNeighbours() {
        StarConsole x = new StarConsole();
        x.dimmer(0, 50, 9999);
        x.dimmer(0, 50, 9999);
        x.dimmer(11, 50, 9999);
        x.dimmer(2, 50, 9999);
        x.fade(0, 7);
        x.fade(1, 7);
        x.fade(2, 41);
        x.fade(3, 50);
        x.pass(1);
        int[] due = {24, 14, 50, 12, 0, 0, 0, 0, 0, 0, 10, 43};
        for (int part = 0; part < 12; part++) {
            Check.same("glare(" + part + ")", x.glare(part), due[part]);
        }
    }

    static void aboutTells() {
        StarConsole x = new StarConsole();
        x.star(350, 4);
        x.star(3, 9);
        x.cue(0, 1, 0, 25);
        x.run();
        x.pass(1);
        int[] due = {350, 4, 15, 1};
        int[] other = {3, 9, 28, 1};
        for (int what = 0; what < 4; what++) {
            Check.same("about(0, " + what + ")", x.about(0, what), due[what]);
            Check.same("about(1, " + what + ")", x.about(1, what), other[what]);
        }
    }

    /** Ten times the light has to be more than the glare: 50 against 50 is not enough. */
    static void starIsSeenAtTheEdge() {
        StarConsole x = new StarConsole();
        x.dimmer(1, 50, 9999);
        x.star(29, 5);
        x.star(30, 5);
        x.star(59, 5);
        x.star(60, 5);
        x.star(30, 1);
        x.star(60, 1);
        x.fade(0, 49);
        x.pass(1);
        Check.same("50 against 49", x.about(1, 3), 1);
        Check.same("10 against 49", x.about(4, 3), 0);
        Check.same("10 against 12", x.about(5, 3), 0);
        x.fade(0, 50);
        x.pass(1);
        Check.same("the part before", x.about(0, 3), 1);
        Check.same("50 against 50", x.about(1, 3), 0);
        Check.same("the end of the part", x.about(2, 3), 0);
        Check.same("the part behind", x.about(3, 3), 1);
        Check.same("stars that are seen", x.count(7), 2);
    }

    static void cometTells() {
        StarConsole x = new StarConsole();
        x.cue(0, 2, 100, -7);
        x.cue(1, 2, 200, 0);
        x.run();
        x.pass(3);
        int[] due = {79, -7, 17, 1};
        int[] other = {200, 0, 18, 1};
        for (int what = 0; what < 4; what++) {
            Check.same("comet(0, " + what + ")", x.comet(0, what), due[what]);
            Check.same("comet(1, " + what + ")", x.comet(1, what), other[what]);
        }
    }

    static void cometIsSeenAtTheEdge() {
        StarConsole x = new StarConsole();
        x.dimmer(0, 30, 9999);
        x.dimmer(0, 29, 9999);
        x.fade(0, 30);
        x.fade(1, 29);
        x.cue(0, 2, 0, 0);
        x.run();
        x.pass(1);
        Check.same("60 against 59", x.comet(0, 3), 1);
        Check.same("comets that are seen", x.count(8), 1);
        x.fade(1, 30);
        x.pass(1);
        Check.same("60 against 60", x.comet(0, 3), 0);
        Check.same("none is seen", x.count(8), 0);
    }

    static void countTells() {
        StarConsole x = new StarConsole();
        x.pass(2);
        x.dimmer(0, 1, 1);
        x.dimmer(3, 50, 9999);
        x.fade(1, 50);
        x.star(0, 1);
        x.star(90, 5);
        x.star(180, 1);
        x.cue(10, 2, 95, 1);
        x.cue(10, 2, 180, 0);
        x.cue(11, 3, 42, 30);
        x.cue(11, 1, 0, -3);
        x.jump(10);
        x.run();
        x.pass(3);
        int[] due = {5, 13, 1, 2, 3, 2, 4, 3, 2, 42, 28, 354, -3};
        for (int what = 0; what < 13; what++) {
            Check.same("count(" + what + ")", x.count(what), due[what]);
        }
        x.fade(1, 100);
        x.pass(2);
        Check.same("stars seen in the glare", x.count(7), 3);
        Check.same("comets seen in the glare", x.count(8), 1);
    }
}
