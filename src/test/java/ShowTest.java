/** Promises 6 to 9: run, jump, fade, pass, and how a tick goes. */
public final class ShowTest {
    public static void main(String[] args) {
        runTurnsTheClock();
        jumpSets();
        fadeByHand();
        passOfAHeldClock();
        cuesOfOneTimeRunByNumbers();
        holdLetsTheOthersOfItsTimeRun();
        clockGoesBeyondTheLastTime();
        levelsGoByTheirPace();
        lampsWear();
        lampBurnsOut();
        ballTurnsRound();
        cometsSlideAndGo();
        noThirteenthComet();
        narratorSpeaks();
        Check.end();
    }

    static void runTurnsTheClock() {
        StarConsole x = new StarConsole();
        Check.same("run()", x.run(), true);
        Check.same("count(2)", x.count(2), 1);
        x.pass(3);
        Check.same("the clock that runs", x.count(1), 3);
        Check.same("run() again", x.run(), false);
        Check.same("count(2) again", x.count(2), 0);
        x.pass(4);
        Check.same("the clock that is held", x.count(1), 3);
        Check.same("the tick", x.count(0), 7);
    }

    static void jumpSets() {
        StarConsole x = new StarConsole();
        x.cue(5, 1, 0, 7);
        Check.same("jump(5)", x.jump(5), 0);
        Check.same("no cue is run by it", x.count(12), 0);
        Check.same("the clock", x.count(1), 5);
        Check.same("it is held yet", x.count(2), 0);
        Check.same("the tick", x.count(0), 0);
        Check.same("jump(1000)", x.jump(1000), 5);
        Check.same("jump(0)", x.jump(0), 1000);
        x.run();
        Check.same("jump(3)", x.jump(3), 0);
        Check.same("it runs yet", x.count(2), 1);
        for (int time : new int[] {-1, 1001, Integer.MIN_VALUE, Integer.MAX_VALUE}) {
            Check.invalid(x, "jump(" + time + ")", () -> x.jump(time));
        }
        Check.same("pass(3)", x.pass(3), 1);
        Check.same("the cue was run", x.count(12), 7);
        Check.same("jump back", x.jump(5), 6);
        Check.same("it is run again", x.pass(1), 1);
    }

    static void fadeByHand() {
        StarConsole x = new StarConsole();
        x.dimmer(0, 10, 9999);
        x.dimmer(0, 10, 9999);
        Check.same("fade(0, 100)", x.fade(0, 100), 0);
        Check.same("fade(0, 0)", x.fade(0, 0), 100);
        Check.same("fade(0, 30)", x.fade(0, 30), 0);
        Check.same("the level is still", x.told(0, 1), 0);
        Check.same("the aim of the other", x.told(1, 2), 0);
        for (int dimmer : new int[] {-1, 2, 8, Integer.MIN_VALUE, Integer.MAX_VALUE}) {
            Check.absent(x, "fade(" + dimmer + ", 5)", () -> x.fade(dimmer, 5));
            Check.absent(x, "fade(" + dimmer + ", 101)", () -> x.fade(dimmer, 101));
        }
        for (int aim : new int[] {-1, 101, Integer.MIN_VALUE, Integer.MAX_VALUE}) {
            Check.invalid(x, "fade(0, " + aim + ")", () -> x.fade(0, aim));
        }
    }

    static void passOfAHeldClock() {
        StarConsole x = new StarConsole();
        x.cue(0, 1, 0, 5);
        Check.same("pass(10)", x.pass(10), 0);
        Check.same("no cue is run", x.count(12), 0);
        Check.same("the clock", x.count(1), 0);
    }

    static void cuesOfOneTimeRunByNumbers() {
        StarConsole x = new StarConsole();
        x.cue(4, 1, 0, 9);
        x.cue(0, 1, 0, 5);
        x.cue(0, 1, 0, -5);
        x.cue(4, 1, 0, 8);
        x.run();
        Check.same("pass(1)", x.pass(1), 2);
        Check.same("the last one is heeded", x.count(12), -5);
        Check.same("pass(3)", x.pass(3), 0);
        Check.same("pass(2)", x.pass(2), 2);
        Check.same("the later one", x.count(12), 8);
    }

    static void holdLetsTheOthersOfItsTimeRun() {
        StarConsole x = new StarConsole();
        x.cue(2, 4, 0, 0);
        x.cue(2, 1, 0, 5);
        x.cue(3, 1, 0, 6);
        x.run();
        Check.same("pass(9)", x.pass(9), 2);
        Check.same("the speed", x.count(12), 5);
        Check.same("the clock", x.count(1), 3);
        Check.same("it is held", x.count(2), 0);
        Check.same("run()", x.run(), true);
        Check.same("pass(1)", x.pass(1), 1);
        Check.same("the speed then", x.count(12), 6);
    }

    static void clockGoesBeyondTheLastTime() {
        StarConsole x = new StarConsole();
        x.cue(999, 1, 0, 1);
        x.run();
        Check.same("pass(500)", x.pass(500), 0);
        Check.same("pass(499)", x.pass(499), 0);
        Check.same("pass(1)", x.pass(1), 1);
        Check.same("the clock", x.count(1), 1000);
        Check.same("pass(500) beyond", x.pass(500), 0);
        Check.same("the clock beyond", x.jump(7), 1500);
    }

    static void levelsGoByTheirPace() {
        StarConsole x = new StarConsole();
        x.dimmer(0, 30, 9999);
        x.fade(0, 100);
        int[] up = {30, 60, 90, 100, 100};
        for (int level : up) {
            x.pass(1);
            Check.same("the level up", x.told(0, 1), level);
        }
        x.fade(0, 15);
        int[] down = {70, 40, 15, 15};
        for (int level : down) {
            x.pass(1);
            Check.same("the level down", x.told(0, 1), level);
        }
    }

    static void lampsWear() {
        StarConsole x = new StarConsole();
        x.dimmer(0, 9, 100);
        x.fade(0, 19);
        int[] lives = {100, 99, 98, 97};
        for (int life : lives) {
            x.pass(1);
            Check.same("the life", x.told(0, 4), life);
        }
    }

    static void lampBurnsOut() {
        StarConsole x = new StarConsole();
        x.dimmer(0, 50, 12);
        x.dimmer(6, 50, 10);
        x.fade(0, 50);
        x.fade(1, 50);
        x.pass(2);
        Check.same("some life is left", x.told(0, 4), 2);
        Check.same("and light", x.told(0, 1), 50);
        Check.same("none is left", x.told(1, 4), 0);
        Check.same("and no light", x.told(1, 1), 0);
        x.pass(1);
        Check.same("the life is not less than 0", x.told(0, 4), 0);
        Check.same("and its light is 0", x.told(0, 1), 0);
        Check.same("its aim stays", x.told(0, 2), 50);
        Check.same("the glare is 0", x.glare(0), 0);
        x.pass(5);
        Check.same("it stays dark", x.told(0, 1), 0);
    }

    static void ballTurnsRound() {
        StarConsole x = new StarConsole();
        x.cue(0, 1, 0, -30);
        x.cue(13, 1, 0, 30);
        x.run();
        x.pass(1);
        Check.same("the angle backward", x.count(11), 330);
        x.pass(11);
        Check.same("the angle once round", x.count(11), 0);
        x.pass(1);
        Check.same("the angle below 0", x.count(11), 330);
        x.pass(1);
        Check.same("the angle forward", x.count(11), 0);
        x.pass(11);
        Check.same("the angle near the end", x.count(11), 330);
        x.pass(1);
        Check.same("the angle beyond 359", x.count(11), 0);
    }

    static void cometsSlideAndGo() {
        StarConsole x = new StarConsole();
        x.cue(0, 2, 350, 20);
        x.cue(0, 2, 10, -20);
        x.run();
        x.pass(1);
        Check.same("a comet forward", x.comet(0, 0), 10);
        Check.same("a comet backward", x.comet(1, 0), 350);
        Check.same("its ticks", x.comet(0, 2), 19);
        x.pass(18);
        Check.same("its last tick", x.comet(0, 2), 1);
        Check.same("it is seen yet", x.comet(0, 3), 1);
        x.pass(1);
        Check.same("no tick is left", x.comet(0, 2), 0);
        Check.same("it is gone", x.comet(0, 3), 0);
        Check.same("its last angle", x.comet(0, 0), 30);
        x.pass(5);
        Check.same("its angle stays", x.comet(0, 0), 30);
        Check.same("its ticks stay", x.comet(0, 2), 0);
        Check.same("comets in all", x.count(5), 2);
    }

    static void noThirteenthComet() {
        StarConsole x = new StarConsole();
        for (int i = 0; i < 7; i++) {
            x.cue(0, 2, i, 0);
        }
        x.run();
        Check.same("pass(1)", x.pass(1), 7);
        x.pass(30);
        x.jump(0);
        Check.same("pass(1) again", x.pass(1), 7);
        Check.same("comets in all", x.count(5), 12);
        Check.same("the twelfth", x.comet(11, 0), 4);
        Check.absent(x, "the thirteenth", () -> x.comet(12, 0));
        x.pass(30);
        x.jump(0);
        Check.same("the cues are run yet", x.pass(1), 7);
        Check.same("still twelve", x.count(5), 12);
        Check.same("those that are gone stay so", x.count(8), 0);
    }

    static void narratorSpeaks() {
        StarConsole x = new StarConsole();
        x.cue(0, 3, 0, 1);
        x.cue(1, 3, 99, 3);
        x.cue(3, 3, 5, 2);
        x.run();
        x.pass(1);
        Check.same("one tick is over", x.count(9), -1);
        Check.same("none left", x.count(10), 0);
        x.pass(1);
        Check.same("line 99", x.count(9), 99);
        Check.same("two left", x.count(10), 2);
        x.pass(1);
        Check.same("one left", x.count(10), 1);
        x.pass(1);
        Check.same("another line", x.count(9), 5);
        Check.same("one left of it", x.count(10), 1);
        x.run();
        x.pass(1);
        Check.same("silent, with the clock held too", x.count(9), -1);
        Check.same("none left then", x.count(10), 0);
        x.pass(3);
        Check.same("silent yet", x.count(10), 0);
    }
}
