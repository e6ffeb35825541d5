/** Each sentence of the document's promises 6 to 9 that names a boundary case, with a test of its own. */
public final class ShowEdgeTest {
    public static void main(String[] args) {
        runTurns();
        runReturns();
        jumpSets();
        jumpReturns();
        jumpInvalid();
        fadeByHand();
        fadeReturns();
        fadeAbsent();
        fadeInvalid();
        passGoesBy();
        passReturns();
        passInvalid();
        Check.end();
    }

    static void runTurns() {
        Check.says("run", "Has the clock run, or holds it, if it runs.");
        StarConsole x = new StarConsole();
        x.cue(1, 4, 0, 0);
        x.run();
        x.pass(1);
        Check.same("it ran", x.count(1), 1);
        x.run();
        x.pass(1);
        Check.same("it was held", x.count(1), 1);
        x.run();
        x.pass(1);
        Check.same("it ran again, and a cue held it", x.count(1), 2);
        x.run();
        Check.same("it runs, after a cue held it", x.count(2), 1);
        Check.same("run() runs no cue and no tick", x.count(0), 3);
    }

    static void runReturns() {
        Check.says("run", "Returns whether it runs then.");
        StarConsole x = new StarConsole();
        x.cue(0, 4, 0, 0);
        Check.same("of a held one", x.run(), true);
        Check.same("of one that runs", x.run(), false);
        Check.same("of a held one again", x.run(), true);
        x.pass(1);
        Check.same("of one that a cue held", x.run(), true);
        x.jump(1000);
        Check.same("of one at its end", x.run(), false);
    }

    static void jumpSets() {
        Check.says("jump", "Sets the clock; no cue is run by it.");
        StarConsole x = new StarConsole();
        x.cue(0, 1, 0, 1);
        x.cue(5, 1, 0, 2);
        x.cue(999, 1, 0, 3);
        x.run();
        for (int time : new int[] {5, 0, 999, 1000, 5}) {
            x.jump(time);
            Check.same("the clock", x.count(1), time);
            Check.same("the speed", x.count(12), 0);
            Check.same("it runs yet", x.count(2), 1);
        }
        Check.same("the cue of the time that was set is run in the next tick", x.pass(1), 1);
        Check.same("the speed", x.count(12), 2);
        x.jump(5);
        Check.same("it is run again", x.pass(1), 1);
        x.jump(6);
        Check.same("it is not run behind its time", x.pass(1), 0);
        x.jump(1000);
        Check.same("none is run at 1000", x.pass(500), 0);
    }

    static void jumpReturns() {
        Check.says("jump", "Returns its time before.");
        StarConsole x = new StarConsole();
        Check.same("at first", x.jump(1000), 0);
        Check.same("behind jump(1000)", x.jump(1000), 1000);
        x.run();
        x.pass(500);
        Check.same("behind 500 ticks", x.jump(0), 1500);
        Check.same("behind jump(0)", x.jump(0), 0);
    }

    static void jumpInvalid() {
        Check.says("jump", "Throws `IllegalArgumentException` if time is not 0 to 1000");
        StarConsole x = new StarConsole();
        x.jump(7);
        for (int wrong : Check.outside(0, 1000)) {
            Check.invalid(x, "jump(" + wrong + ")", () -> x.jump(wrong));
        }
        Check.same("jump(1000)", x.jump(1000), 7);
        Check.same("jump(0)", x.jump(0), 1000);
        Check.same("the clock", x.count(1), 0);
    }

    static void fadeByHand() {
        Check.says("fade", "Fades a dimmer by hand.");
        StarConsole x = new StarConsole();
        x.dimmer(0, 50, 9999);
        x.dimmer(0, 50, 0);
        x.fade(0, 100);
        x.fade(1, 100);
        Check.same("the level before a tick", x.told(0, 1), 0);
        Check.same("the aim", x.told(0, 2), 100);
        Check.same("the aim of one without life", x.told(1, 2), 100);
        x.pass(2);
        Check.same("the level then", x.told(0, 1), 100);
        Check.same("the level of one without life", x.told(1, 1), 0);
        x.fade(0, 0);
        Check.same("the level before a tick down", x.told(0, 1), 100);
        x.pass(2);
        Check.same("the level then", x.told(0, 1), 0);
        x.cue(0, 0, 0, 60);
        x.fade(0, 50);
        x.run();
        x.pass(1);
        Check.same("a cue is later than a hand", x.told(0, 2), 60);
        x.fade(0, 0);
        x.pass(1);
        Check.same("a hand is later than a cue", x.told(0, 2), 0);
    }

    static void fadeReturns() {
        Check.says("fade", "Returns its aim before.");
        StarConsole x = new StarConsole();
        x.dimmer(0, 1, 1);
        Check.same("at first", x.fade(0, 100), 0);
        Check.same("behind fade(0, 100)", x.fade(0, 100), 100);
        Check.same("behind fade(0, 100) again", x.fade(0, 0), 100);
        Check.same("behind fade(0, 0)", x.fade(0, 0), 0);
    }

    static void fadeAbsent() {
        Check.says("fade", "Throws `IndexOutOfBoundsException` if there is no such dimmer");
        StarConsole x = new StarConsole();
        Check.absent(x, "without dimmers", () -> x.fade(0, 0));
        for (int size = 1; size <= 8; size++) {
            x.dimmer(0, 1, 5);
            for (int wrong : Check.outside(0, size - 1)) {
                Check.absent(x, size + " dimmers, fade(" + wrong + ", 0)", () -> x.fade(wrong, 0));
            }
            Check.same("the last one's", x.fade(size - 1, 6), 0);
        }
        Check.same("the first one's", x.fade(0, 5), 6);
    }

    static void fadeInvalid() {
        Check.says("fade", "Throws `IllegalArgumentException` if aim is not 0 to 100");
        StarConsole x = new StarConsole();
        x.dimmer(0, 1, 1);
        x.fade(0, 33);
        for (int wrong : Check.outside(0, 100)) {
            Check.invalid(x, "fade(0, " + wrong + ")", () -> x.fade(0, wrong));
        }
        Check.same("fade(0, 100)", x.fade(0, 100), 33);
        Check.same("fade(0, 0)", x.fade(0, 0), 100);
    }

    static void passGoesBy() {
        Check.says("pass", "Lets ticks go by.");
        StarConsole x = new StarConsole();
        x.run();
        x.pass(1);
        Check.same("the tick behind the fewest", x.count(0), 1);
        Check.same("the clock behind the fewest", x.count(1), 1);
        x.pass(500);
        Check.same("the tick behind the most", x.count(0), 501);
        Check.same("the clock behind the most", x.count(1), 501);
    }

    static void passReturns() {
        Check.says("pass", "Returns how many cues are run in them.");
        StarConsole x = new StarConsole();
        x.cue(0, 1, 0, 1);
        x.cue(499, 1, 0, 2);
        x.cue(500, 4, 0, 0);
        x.cue(500, 1, 0, 3);
        x.cue(501, 1, 0, 4);
        Check.same("of a held clock", x.pass(500), 0);
        x.run();
        Check.same("the first and the last of 500", x.pass(500), 2);
        Check.same("only those in them are counted", x.pass(1), 2);
        Check.same("none behind the hold", x.pass(500), 0);
        x.run();
        Check.same("the one behind the hold", x.pass(500), 1);
        Check.same("none is left", x.pass(500), 0);
    }

    static void passInvalid() {
        Check.says("pass", "Throws `IllegalArgumentException` if ticks is not 1 to 500");
        StarConsole x = new StarConsole();
        x.run();
        for (int wrong : Check.outside(1, 500)) {
            Check.invalid(x, "pass(" + wrong + ")", () -> x.pass(wrong));
        }
        Check.invalid(x, "pass(-1)", () -> x.pass(-1));
        Check.same("pass(1)", x.pass(1), 0);
        Check.same("pass(500)", x.pass(500), 0);
        Check.same("the tick", x.count(0), 501);
    }
}
