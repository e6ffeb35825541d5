/** Each sentence of the document's "What it is" and "Terms" that names a boundary case, with a test of its own. */
public final class TermsEdgeTest {
    public static void main(String[] args) {
        lastCall();
        slashIsCut();
        timeFromZeroAndAnglesRound();
        partsOfTheDome();
        dimmersAndTheirBounds();
        withoutLife();
        glareOfAPart();
        starsAndTheirBounds();
        ballAndItsBounds();
        cometsAndTheirBounds();
        seenAtTheEdge();
        narratorAndItsBounds();
        showAndItsBounds();
        kindFade();
        kindTurn();
        kindComet();
        kindSpeak();
        kindHold();
        tickRunsCues();
        tickMovesDimmers();
        tickMovesTheSky();
        tickIsCounted();
        refusedCallsChangeNothing();
        firstNamedExceptionIsThrown();
        Check.end();
    }

    /** A console with one dimmer of this level upon this part; it is two ticks old, its clock held. */
    private static StarConsole lit(int part, int level) {
        StarConsole x = new StarConsole();
        x.dimmer(part, 50, 9999);
        x.fade(0, level);
        x.pass(2);
        return x;
    }

    static void lastCall() {
        Check.says("What it is", "An object is used for at most 512 calls after it has been made; what later calls answer is free.");
        StarConsole x = new StarConsole();
        x.run();
        for (int call = 2; call <= 511; call++) {
            Check.same("call " + call + ", pass(500)", x.pass(500), 0);
        }
        Check.same("call 512, count(1)", x.count(1), 255000);

        StarConsole y = new StarConsole();
        y.dimmer(0, 50, 9999);
        y.cue(0, 1, 0, -29);
        y.cue(999, 1, 0, 30);
        y.fade(0, 19);
        y.run();
        for (int call = 6; call <= 508; call++) {
            y.pass(1);
        }
        Check.same("call 509, when", y.when(1), 1000 - 503);
        Check.same("call 510, lasts", y.lasts(0), -1);
        Check.same("call 511, foresee", y.foresee(496, 11), Math.floorMod(-29 * 999, 360));
        Check.same("call 512, pass(500)", y.pass(500), 1);
    }

    static void slashIsCut() {
        Check.says("Terms", "All numbers are whole, and / is cut towards 0.");
        int[] levels = {0, 1, 3, 4, 7, 8, 9, 10, 19, 20, 99, 100};
        int[] quarters = {0, 0, 0, 1, 1, 2, 2, 2, 4, 5, 24, 25};
        int[] tenths = {0, 0, 0, 0, 0, 0, 0, 1, 1, 2, 9, 10};
        for (int i = 0; i < levels.length; i++) {
            StarConsole x = lit(5, levels[i]);
            Check.same("a quarter of " + levels[i] + " before it", x.glare(4), quarters[i]);
            Check.same("a quarter of " + levels[i] + " behind it", x.glare(6), quarters[i]);
            int life = x.told(0, 4);
            x.pass(1);
            Check.same("a tenth of " + levels[i], life - x.told(0, 4), tenths[i]);
        }
    }

    static void timeFromZeroAndAnglesRound() {
        Check.says("Terms", "Time is told in ticks, from 0; angles in degrees, 0 to 359, round.");
        StarConsole x = new StarConsole();
        x.star(359, 1);
        x.star(0, 1);
        x.star(358, 1);
        x.cue(0, 1, 0, 1);
        x.cue(0, 2, 359, 1);
        x.cue(0, 2, 0, -1);
        x.cue(0, 2, 358, 1);
        x.cue(1, 1, 0, -2);
        Check.same("the first tick", x.count(0), 0);
        x.run();
        x.pass(1);
        Check.same("the ball at 0 and 1", x.count(11), 1);
        Check.same("a star at 359 and 1", x.about(0, 2), 0);
        Check.same("a star at 0 and 1", x.about(1, 2), 1);
        Check.same("a star at 358 and 1", x.about(2, 2), 359);
        Check.same("a comet at 359 and 1", x.comet(0, 0), 0);
        Check.same("a comet at 0 and -1", x.comet(1, 0), 359);
        Check.same("a comet at 358 and 1", x.comet(2, 0), 359);
        x.pass(1);
        Check.same("the ball at 1 and -2", x.count(11), 359);
        Check.same("a star at 0 and 359", x.about(1, 2), 359);
        Check.same("a star at 359 and 359", x.about(0, 2), 358);
    }

    static void partsOfTheDome() {
        Check.says("Terms", "It has 12 parts, 0 to 11, round: the part of an angle is the angle / 30.");
        for (int part = 0; part < 12; part++) {
            StarConsole x = new StarConsole();
            x.dimmer(part, 50, 9999);
            x.fade(0, 60);
            x.star(30 * part, 6);
            x.star(30 * part + 29, 6);
            x.star((30 * part + 359) % 360, 6);
            x.star((30 * part + 30) % 360, 6);
            x.cue(0, 2, 30 * part, 0);
            x.cue(0, 2, 30 * part + 29, 0);
            x.cue(0, 2, (30 * part + 359) % 360, 0);
            x.cue(0, 2, (30 * part + 30) % 360, 0);
            x.run();
            x.pass(2);
            int[] seen = {0, 0, 1, 1};
            for (int i = 0; i < 4; i++) {
                Check.same("part " + part + ", a star at " + x.about(i, 2), x.about(i, 3), seen[i]);
                Check.same("part " + part + ", a comet at " + x.comet(i, 0), x.comet(i, 3), seen[i]);
            }
        }
    }

    static void dimmersAndTheirBounds() {
        Check.says("Terms", "There are at most 8, numbered from 0 in the order of their setting up; each shines upon a part, "
                + "has a level, 0 (at first) to 100, an aim, 0 (at first) to 100, a pace, 1 to 50, "
                + "and a lamp with a life, 0 to 9999.");
        StarConsole x = new StarConsole();
        for (int i = 0; i < 8; i++) {
            Check.same("the number of dimmer " + i, x.dimmer(11 - i, i % 2 == 0 ? 1 : 50, i < 4 ? 9999 : 0), i);
            Check.same("its level at first", x.told(i, 1), 0);
            Check.same("its aim at first", x.told(i, 2), 0);
        }
        Check.full(x, "a ninth dimmer", () -> x.dimmer(0, 1, 9999));
        Check.same("the part of the last one", x.told(7, 0), 4);
        Check.same("the life of one with most", x.told(3, 4), 9999);
        Check.same("the life of one with least", x.told(4, 4), 0);
        x.fade(0, 100);
        x.fade(1, 100);
        x.pass(1);
        Check.same("the level at pace 1", x.told(0, 1), 1);
        Check.same("the level at pace 50", x.told(1, 1), 50);
        x.pass(99);
        Check.same("the level at pace 1, at most", x.told(0, 1), 100);
        Check.same("the level at pace 50, at most", x.told(1, 1), 100);
        x.fade(0, 0);
        x.fade(1, 0);
        x.pass(1);
        Check.same("the level at pace 1, downward", x.told(0, 1), 99);
        Check.same("the level at pace 50, downward", x.told(1, 1), 50);
        x.pass(100);
        Check.same("the level at pace 1, at least", x.told(0, 1), 0);
        Check.same("the level at pace 50, at least", x.told(1, 1), 0);
    }

    static void withoutLife() {
        Check.says("Terms", "Without life its level is 0.");
        StarConsole x = new StarConsole();
        x.dimmer(0, 50, 0);
        x.dimmer(0, 50, 1);
        x.dimmer(0, 50, 9999);
        for (int i = 0; i < 3; i++) {
            x.fade(i, 10);
        }
        x.pass(1);
        Check.same("the level of one that never had life", x.told(0, 1), 0);
        Check.same("the level of one whose life is over in the tick", x.told(1, 1), 0);
        Check.same("the level of one with life", x.told(2, 1), 10);
        Check.same("the glare", x.glare(0), 10);
        x.lamp(2, 0);
        Check.same("the level of one whose lamp is without life", x.told(2, 1), 0);
        Check.same("the glare then", x.glare(0), 0);
        x.pass(500);
        for (int i = 0; i < 3; i++) {
            Check.same("the level of " + i + " much later", x.told(i, 1), 0);
            Check.same("its life", x.told(i, 4), 0);
        }
    }

    static void glareOfAPart() {
        Check.says("Terms", "Glare of a part: the levels of all dimmers upon it, and a quarter (cut) of the level of each dimmer "
                + "upon a part beside it, added.");
        for (int part = 0; part < 12; part++) {
            StarConsole x = lit(part, 43);
            for (int way = 0; way < 12; way++) {
                int due = way == 0 ? 43 : way == 1 || way == 11 ? 10 : 0;
                Check.same("43 upon " + part + ", the glare " + way + " parts on", x.glare((part + way) % 12), due);
            }
        }
        StarConsole x = new StarConsole();
        for (int i = 0; i < 8; i++) {
            x.dimmer(0, 50, 9999);
            x.fade(i, 3);
        }
        x.pass(1);
        Check.same("8 of 3", x.glare(0), 24);
        Check.same("8 quarters of 3, each cut, behind", x.glare(1), 0);
        Check.same("8 quarters of 3, each cut, before", x.glare(11), 0);
        for (int i = 0; i < 8; i++) {
            x.fade(i, 100);
        }
        x.pass(2);
        Check.same("8 of 100", x.glare(0), 800);
        Check.same("8 quarters of 100, behind", x.glare(1), 200);
        Check.same("8 quarters of 100, before", x.glare(11), 200);
        Check.same("two parts on", x.glare(2), 0);
        Check.same("two parts back", x.glare(10), 0);
    }

    static void starsAndTheirBounds() {
        Check.says("Terms", "There are at most 20, numbered likewise; each has a degree of the ball, and a light, 1 to 9; "
                + "it stands at this degree and the angle of the ball, added.");
        StarConsole x = new StarConsole();
        for (int i = 0; i < 20; i++) {
            Check.same("the number of star " + i, x.star(359 - i, i % 2 == 0 ? 1 : 9), i);
            Check.same("where it stands at first", x.about(i, 2), 359 - i);
        }
        Check.full(x, "a star too many", () -> x.star(0, 1));
        x.cue(0, 1, 0, 10);
        x.run();
        x.pass(1);
        Check.same("a star at 359 and 10", x.about(0, 2), 9);
        Check.same("a star at 350 and 10", x.about(9, 2), 0);
        Check.same("a star at 349 and 10", x.about(10, 2), 359);
        Check.same("a star at 340 and 10", x.about(19, 2), 350);
        Check.same("the degree of the first", x.about(0, 0), 359);
        Check.same("the light of one with least", x.about(18, 1), 1);
        Check.same("the light of one with most", x.about(19, 1), 9);
    }

    static void ballAndItsBounds() {
        Check.says("Terms", "The ball has an angle (0, at first), and a speed, -30 to 30 (0, at first).");
        StarConsole x = new StarConsole();
        Check.same("the angle at first", x.count(11), 0);
        Check.same("the speed at first", x.count(12), 0);
        x.pass(500);
        Check.same("the angle without speed", x.count(11), 0);
        x.cue(0, 1, 0, -30);
        x.cue(1, 1, 0, 30);
        x.run();
        x.pass(1);
        Check.same("the least speed", x.count(12), -30);
        Check.same("the angle by it", x.count(11), 330);
        x.pass(1);
        Check.same("the greatest speed", x.count(12), 30);
        Check.same("the angle by it", x.count(11), 0);
    }

    static void cometsAndTheirBounds() {
        Check.says("Terms", "There are at most 12 in all, numbered likewise; each has an angle, a speed, -20 to 20, a light of 6, "
                + "and 20 ticks left; without ticks left it is gone.");
        StarConsole x = new StarConsole();
        for (int i = 0; i < 13; i++) {
            x.cue(i, 2, 10 * i, i == 0 ? -20 : i == 1 ? 20 : 0);
        }
        x.run();
        Check.same("pass(12)", x.pass(12), 12);
        Check.same("comets in all", x.count(5), 12);
        Check.same("the least speed", x.comet(0, 1), -20);
        Check.same("the angle by it", x.comet(0, 0), 120);
        Check.same("the greatest speed", x.comet(1, 1), 20);
        Check.same("the angle by it", x.comet(1, 0), 230);
        Check.same("the angle of the twelfth", x.comet(11, 0), 110);
        for (int i = 0; i < 12; i++) {
            Check.same("the ticks left of comet " + i, x.comet(i, 2), 8 + i);
        }
        Check.same("the cue of a thirteenth", x.pass(1), 1);
        Check.absent(x, "comet(12, 0)", () -> x.comet(12, 0));
        x.pass(6);
        Check.same("one tick is left", x.comet(0, 2), 1);
        Check.same("so it is not gone", x.comet(0, 3), 1);
        Check.same("comets that are seen", x.count(8), 12);
        x.pass(1);
        Check.same("no tick is left", x.comet(0, 2), 0);
        Check.same("so it is gone", x.comet(0, 3), 0);
        Check.same("comets that are seen then", x.count(8), 11);
        x.pass(11);
        Check.same("all are gone", x.count(8), 0);
        x.jump(5);
        Check.same("the cue of one more", x.pass(1), 1);
        Check.same("no more come though all are gone", x.count(5), 12);
        Check.same("none is seen", x.count(8), 0);
    }

    static void seenAtTheEdge() {
        Check.says("Terms", "A star, or a comet that is not gone, is seen, if 10 times its light is more than the glare of its part.");
        for (int light = 1; light <= 9; light++) {
            for (int more = -1; more <= 1; more++) {
                StarConsole x = lit(7, 10 * light + more);
                x.star(7 * 30 + 15, light);
                Check.same("light " + light + " against " + x.glare(7), x.about(0, 3), more < 0 ? 1 : 0);
                Check.same("stars that are seen", x.count(7), more < 0 ? 1 : 0);
            }
        }
        for (int level = 59; level <= 61; level++) {
            StarConsole x = lit(7, level);
            x.cue(0, 2, 7 * 30 + 15, 0);
            x.run();
            x.pass(1);
            Check.same("a comet against " + level, x.comet(0, 3), level < 60 ? 1 : 0);
            Check.same("comets that are seen against " + level, x.count(8), level < 60 ? 1 : 0);
            x.fade(0, 0);
            x.pass(18);
            Check.same("its last tick, in the dark", x.comet(0, 3), 1);
            x.pass(1);
            Check.same("gone, in the dark", x.comet(0, 3), 0);
            Check.same("comets that are seen when it is gone", x.count(8), 0);
        }
        StarConsole dark = new StarConsole();
        dark.star(0, 1);
        Check.same("the least light against none", dark.about(0, 3), 1);
    }

    static void narratorAndItsBounds() {
        Check.says("Terms", "The narrator is silent (at first), or speaks a line, 0 to 99, for some ticks yet.");
        StarConsole x = new StarConsole();
        Check.same("the line at first", x.count(9), -1);
        Check.same("its ticks at first", x.count(10), 0);
        x.pass(1);
        Check.same("the line of one that stays silent", x.count(9), -1);
        Check.same("its ticks", x.count(10), 0);
        x.cue(0, 3, 0, 2);
        x.cue(1, 3, 99, 2);
        x.run();
        x.pass(1);
        Check.same("the least line", x.count(9), 0);
        Check.same("its ticks", x.count(10), 1);
        x.pass(1);
        Check.same("the greatest line", x.count(9), 99);
        Check.same("its ticks", x.count(10), 1);
    }

    static void showAndItsBounds() {
        Check.says("Terms", "It has a clock (0, at first), which runs or is held (at first), and at most 24 cues, numbered likewise; "
                + "each has a time, 0 to 999, a kind, and two numbers a and b:");
        StarConsole x = new StarConsole();
        Check.same("the clock at first", x.count(1), 0);
        Check.same("it is held at first", x.count(2), 0);
        x.pass(500);
        Check.same("a held clock stays", x.count(1), 0);
        for (int i = 0; i < 24; i++) {
            Check.same("the number of cue " + i, x.cue(i % 2 == 0 ? 0 : 999, 1, 0, i), i);
        }
        Check.full(x, "a cue too many", () -> x.cue(0, 4, 0, 0));
        x.run();
        Check.same("the cues of time 0", x.pass(1), 12);
        Check.same("the last of them", x.count(12), 22);
        x.jump(998);
        Check.same("none of time 998", x.pass(1), 0);
        Check.same("the cues of time 999", x.pass(1), 12);
        Check.same("the last of them", x.count(12), 23);
    }

    /** A cue of this kind does what its sentence says, and nothing else. */
    private static void doesNoMore(int kind, int a, int b, int aim, int speed, int comets, int line, int runs) {
        StarConsole x = new StarConsole();
        x.dimmer(0, 50, 9999);
        x.cue(0, kind, a, b);
        x.run();
        x.pass(1);
        Check.same("the aim then", x.told(0, 2), aim);
        Check.same("the speed of the ball then", x.count(12), speed);
        Check.same("comets in all then", x.count(5), comets);
        Check.same("the line then", x.count(9), line);
        Check.same("whether the clock runs then", x.count(2), runs);
    }

    static void kindFade() {
        Check.says("Terms", "0: the dimmer a has the aim b (0 to 100).");
        StarConsole x = new StarConsole();
        Check.invalid(x, "without dimmers", () -> x.cue(0, 0, 0, 0));
        x.dimmer(0, 50, 9999);
        x.dimmer(0, 50, 9999);
        Check.invalid(x, "a below 0", () -> x.cue(0, 0, -1, 0));
        Check.invalid(x, "a of no dimmer", () -> x.cue(0, 0, 2, 0));
        Check.invalid(x, "b below 0", () -> x.cue(0, 0, 1, -1));
        Check.invalid(x, "b above 100", () -> x.cue(0, 0, 1, 101));
        Check.same("b of 100", x.cue(0, 0, 1, 100), 0);
        Check.same("b of 0", x.cue(1, 0, 1, 0), 1);
        x.run();
        x.pass(1);
        Check.same("the aim of 1", x.told(1, 2), 100);
        Check.same("the aim of 0", x.told(0, 2), 0);
        Check.same("the level of 1 in the same tick", x.told(1, 1), 50);
        x.pass(1);
        Check.same("the aim of 1 then", x.told(1, 2), 0);
        Check.same("the level of 1 then", x.told(1, 1), 0);
        doesNoMore(0, 0, 7, 7, 0, 0, -1, 1);
    }

    static void kindTurn() {
        Check.says("Terms", "1: the ball has the speed b (-30 to 30; a is 0).");
        StarConsole x = new StarConsole();
        Check.invalid(x, "a of 1", () -> x.cue(0, 1, 1, 0));
        Check.invalid(x, "a of -1", () -> x.cue(0, 1, -1, 0));
        Check.invalid(x, "b below -30", () -> x.cue(0, 1, 0, -31));
        Check.invalid(x, "b above 30", () -> x.cue(0, 1, 0, 31));
        int[] speeds = {-30, 30, 0};
        int[] angles = {330, 0, 0};
        for (int i = 0; i < 3; i++) {
            Check.same("b of " + speeds[i], x.cue(i, 1, 0, speeds[i]), i);
        }
        x.run();
        for (int i = 0; i < 3; i++) {
            x.pass(1);
            Check.same("the speed", x.count(12), speeds[i]);
            Check.same("the angle in the same tick", x.count(11), angles[i]);
        }
        doesNoMore(1, 0, 7, 0, 7, 0, -1, 1);
    }

    static void kindComet() {
        Check.says("Terms", "2: a comet comes at the angle a, with the speed b (-20 to 20); with 12 in all there is none.");
        StarConsole x = new StarConsole();
        Check.invalid(x, "a below 0", () -> x.cue(0, 2, -1, 0));
        Check.invalid(x, "a above 359", () -> x.cue(0, 2, 360, 0));
        Check.invalid(x, "b below -20", () -> x.cue(0, 2, 0, -21));
        Check.invalid(x, "b above 20", () -> x.cue(0, 2, 0, 21));
        int[] angles = {0, 359, 19, 340};
        int[] speeds = {-20, 20, -20, 20};
        int[] then = {340, 19, 359, 0};
        for (int i = 0; i < 4; i++) {
            Check.same("a of " + angles[i] + ", b of " + speeds[i], x.cue(0, 2, angles[i], speeds[i]), i);
        }
        for (int i = 4; i < 11; i++) {
            x.cue(0, 2, i, 0);
        }
        x.cue(1, 2, 111, 1);
        x.cue(1, 2, 222, 2);
        x.run();
        Check.same("eleven comets", x.pass(1), 11);
        for (int i = 0; i < 4; i++) {
            Check.same("the angle in the same tick", x.comet(i, 0), then[i]);
            Check.same("the speed", x.comet(i, 1), speeds[i]);
        }
        Check.same("a cue for a twelfth and one for a thirteenth are run", x.pass(1), 2);
        Check.same("twelve comets", x.count(5), 12);
        Check.same("the angle of the twelfth", x.comet(11, 0), 112);
        Check.same("the speed of the twelfth", x.comet(11, 1), 1);
        Check.absent(x, "the thirteenth", () -> x.comet(12, 0));
        doesNoMore(2, 9, 7, 0, 0, 1, -1, 1);
    }

    static void kindSpeak() {
        Check.says("Terms", "3: the narrator speaks the line a (0 to 99) for b ticks (1 to 60), and no other one any more.");
        StarConsole x = new StarConsole();
        Check.invalid(x, "a below 0", () -> x.cue(0, 3, -1, 1));
        Check.invalid(x, "a above 99", () -> x.cue(0, 3, 100, 1));
        Check.invalid(x, "b below 1", () -> x.cue(0, 3, 0, 0));
        Check.invalid(x, "b above 60", () -> x.cue(0, 3, 0, 61));
        Check.same("a of 99, b of 60", x.cue(0, 3, 99, 60), 0);
        Check.same("a of 0, b of 1", x.cue(10, 3, 0, 1), 1);
        x.run();
        x.pass(1);
        Check.same("the line", x.count(9), 99);
        Check.same("its ticks", x.count(10), 59);
        x.pass(9);
        Check.same("its ticks before the other line", x.count(10), 50);
        x.pass(1);
        Check.same("neither line any more", x.count(9), -1);
        Check.same("no ticks", x.count(10), 0);
        x.jump(0);
        x.pass(1);
        x.run();
        x.pass(58);
        Check.same("the last tick of 60", x.count(10), 1);
        Check.same("the line yet", x.count(9), 99);
        x.pass(1);
        Check.same("silent behind 60", x.count(9), -1);

        StarConsole y = new StarConsole();
        y.cue(0, 3, 1, 1);
        y.cue(0, 3, 2, 60);
        y.cue(1, 3, 3, 60);
        y.cue(1, 3, 4, 2);
        y.run();
        y.pass(1);
        Check.same("the longer one of two at once", y.count(9), 2);
        Check.same("its ticks", y.count(10), 59);
        y.pass(1);
        Check.same("the shorter one of two at once", y.count(9), 4);
        Check.same("its ticks", y.count(10), 1);
        y.pass(1);
        Check.same("the longer one does not come back", y.count(9), -1);
        doesNoMore(3, 9, 7, 0, 0, 0, 9, 1);
    }

    static void kindHold() {
        Check.says("Terms", "4: the clock is held (a and b are 0).");
        StarConsole x = new StarConsole();
        Check.invalid(x, "a of 1", () -> x.cue(0, 4, 1, 0));
        Check.invalid(x, "a of -1", () -> x.cue(0, 4, -1, 0));
        Check.invalid(x, "b of 1", () -> x.cue(0, 4, 0, 1));
        Check.invalid(x, "b of -1", () -> x.cue(0, 4, 0, -1));
        Check.same("a of 0, b of 0", x.cue(0, 4, 0, 0), 0);
        Check.same("a second one of its time", x.cue(0, 4, 0, 0), 1);
        x.run();
        Check.same("both are run", x.pass(5), 2);
        Check.same("the clock is held, not turned twice", x.count(2), 0);
        Check.same("the clock", x.count(1), 1);
        doesNoMore(4, 0, 0, 0, 0, 0, -1, 0);
    }

    static void tickRunsCues() {
        Check.says("Terms", "1. If the clock runs: all cues of its time, by numbers, are run; then it is 1 greater "
                + "(also if one of them held it).");
        StarConsole x = new StarConsole();
        x.dimmer(0, 50, 9999);
        x.cue(1, 0, 0, 9);
        x.cue(0, 0, 0, 1);
        x.cue(0, 4, 0, 0);
        x.cue(0, 0, 0, 2);
        x.cue(0, 0, 0, 3);
        Check.same("a held clock runs none", x.pass(1), 0);
        Check.same("and is as great as it was", x.count(1), 0);
        x.run();
        Check.same("all of its time are run", x.pass(1), 4);
        Check.same("the one with the greatest number is the last", x.told(0, 2), 3);
        Check.same("it is held then", x.count(2), 0);
        Check.same("and 1 greater", x.count(1), 1);
        Check.same("those of the next time are not run", x.pass(1), 0);
        Check.same("nor is it greater", x.count(1), 1);
        x.run();
        Check.same("they are run then", x.pass(1), 1);
        Check.same("the aim", x.told(0, 2), 9);
        x.jump(1000);
        x.pass(1);
        Check.same("beyond the last time it is 1 greater too", x.count(1), 1001);
    }

    static void tickMovesDimmers() {
        Check.says("Terms", "2. Each dimmer goes from its level towards its aim by its pace, at most to it; its lamp has level / 10 "
                + "(of the level that it has then) less life (at least 0); without life its level is 0.");
        StarConsole x = new StarConsole();
        x.dimmer(0, 10, 100);
        x.fade(0, 20);
        int[] levelsUp = {10, 20, 20};
        int[] livesUp = {99, 97, 95};
        for (int i = 0; i < 3; i++) {
            x.pass(1);
            Check.same("exactly to its aim, the level", x.told(0, 1), levelsUp[i]);
            Check.same("by the level that it has then, the life", x.told(0, 4), livesUp[i]);
        }
        x.fade(0, 21);
        x.pass(1);
        Check.same("not beyond its aim", x.told(0, 1), 21);
        x.fade(0, 20);
        x.pass(1);
        Check.same("not beyond its aim, downward", x.told(0, 1), 20);
        x.fade(0, 5);
        x.pass(1);
        Check.same("down by its pace", x.told(0, 1), 10);
        Check.same("by the level that it has then, downward", x.told(0, 4), 90);
        x.pass(1);
        Check.same("down to its aim", x.told(0, 1), 5);
        Check.same("no life less", x.told(0, 4), 90);

        int[] lives = {4, 5, 6};
        int[] left = {0, 0, 1};
        int[] levels = {0, 0, 50};
        for (int i = 0; i < 3; i++) {
            StarConsole y = new StarConsole();
            y.dimmer(0, 50, lives[i]);
            y.fade(0, 50);
            y.pass(1);
            Check.same("5 less of a life of " + lives[i], y.told(0, 4), left[i]);
            Check.same("the level then", y.told(0, 1), levels[i]);
            Check.same("the aim then", y.told(0, 2), 50);
        }
    }

    static void tickMovesTheSky() {
        Check.says("Terms", "3. The ball turns by its speed; comets that are not gone go on by theirs, and have a tick less; "
                + "the narrator has a tick less, and is silent without any left.");
        StarConsole x = new StarConsole();
        x.cue(0, 1, 0, 30);
        x.cue(0, 2, 340, 20);
        x.cue(0, 3, 8, 2);
        x.run();
        x.pass(1);
        Check.same("the ball in the tick of its cue", x.count(11), 30);
        Check.same("the comet in the tick of its cue", x.comet(0, 0), 0);
        Check.same("its ticks", x.comet(0, 2), 19);
        Check.same("the narrator's ticks", x.count(10), 1);
        Check.same("its line", x.count(9), 8);
        x.run();
        x.pass(1);
        Check.same("the ball with the clock held", x.count(11), 60);
        Check.same("the comet with the clock held", x.comet(0, 0), 20);
        Check.same("no ticks are left to the narrator", x.count(10), 0);
        Check.same("it is silent", x.count(9), -1);
        x.pass(18);
        Check.same("the comet's last tick is over", x.comet(0, 2), 0);
        Check.same("it went on in it", x.comet(0, 0), 20);
        Check.same("the ball", x.count(11), 240);
        x.pass(1);
        Check.same("the comet that is gone does not go on", x.comet(0, 0), 20);
        Check.same("nor has it a tick less", x.comet(0, 2), 0);
        Check.same("nor has the narrator", x.count(10), 0);
        Check.same("the ball turns on", x.count(11), 270);
        x.pass(3);
        Check.same("once round", x.count(11), 0);
    }

    static void tickIsCounted() {
        Check.says("Terms", "4. The tick is 1 greater.");
        StarConsole x = new StarConsole();
        x.pass(1);
        Check.same("the tick with the clock held", x.count(0), 1);
        x.run();
        x.pass(1);
        Check.same("the tick with the clock running", x.count(0), 2);
        x.jump(1000);
        Check.same("the tick when the clock is set", x.count(0), 2);
        x.pass(500);
        Check.same("the tick behind 500 more", x.count(0), 502);
    }

    static void refusedCallsChangeNothing() {
        Check.says("Terms", "A method that throws an exception changes nothing.");
        StarConsole x = full();
        StarConsole twin = full();
        Check.full(x, "a ninth dimmer", () -> x.dimmer(0, 1, 1));
        Check.invalid(x, "a dimmer upon no part", () -> x.dimmer(-1, 1, 1));
        Check.absent(x, "a lamp for no dimmer", () -> x.lamp(8, 0));
        Check.invalid(x, "a lamp with a wrong life", () -> x.lamp(0, -1));
        Check.full(x, "a star too many", () -> x.star(0, 1));
        Check.invalid(x, "a star without light", () -> x.star(0, 0));
        Check.full(x, "a cue too many", () -> x.cue(0, 4, 0, 0));
        Check.invalid(x, "a cue of a wrong kind", () -> x.cue(0, 5, 0, 0));
        Check.invalid(x, "jump(-1)", () -> x.jump(-1));
        Check.invalid(x, "jump(1001)", () -> x.jump(1001));
        Check.absent(x, "a fade for no dimmer", () -> x.fade(8, 0));
        Check.invalid(x, "a fade with a wrong aim", () -> x.fade(0, 101));
        Check.invalid(x, "pass(0)", () -> x.pass(0));
        Check.invalid(x, "pass(501)", () -> x.pass(501));
        Check.absent(x, "told(8, 0)", () -> x.told(8, 0));
        Check.absent(x, "glare(12)", () -> x.glare(12));
        Check.absent(x, "about(20, 0)", () -> x.about(20, 0));
        Check.absent(x, "comet(12, 0)", () -> x.comet(12, 0));
        Check.absent(x, "count(13)", () -> x.count(13));
        Check.absent(x, "when(24)", () -> x.when(24));
        Check.absent(x, "lasts(8)", () -> x.lasts(8));
        Check.invalid(x, "foresee(0, 1)", () -> x.foresee(0, 1));
        Check.absent(x, "foresee(1, 0)", () -> x.foresee(1, 0));
        for (int i = 0; i < 30; i++) {
            Check.same("digest() of one that refused and one that did not", x.digest(), twin.digest());
            Check.same("pass(1) of both", x.pass(1), twin.pass(1));
        }
    }

    /** A console with as many of everything as there may be, in the midst of its show. */
    private static StarConsole full() {
        StarConsole x = new StarConsole();
        for (int i = 0; i < 8; i++) {
            x.dimmer(i + 2, 7 * i + 1, 60 * i);
            x.fade(i, 11 * i);
        }
        for (int i = 0; i < 20; i++) {
            x.star(18 * i, i % 9 + 1);
        }
        for (int i = 0; i < 12; i++) {
            x.cue(0, 2, 30 * i, i - 6);
        }
        for (int i = 0; i < 8; i++) {
            x.cue(3 * i, 0, i, 10 * i);
        }
        x.cue(4, 3, 17, 20);
        x.cue(3, 1, 0, 13);
        x.cue(7, 1, 0, -7);
        x.cue(20, 4, 0, 0);
        x.run();
        x.pass(5);
        return x;
    }

    static void firstNamedExceptionIsThrown() {
        Check.says("Terms", "If several exceptions apply, the one that is named first is thrown.");
        StarConsole x = full();
        Check.invalid(x, "a ninth dimmer upon no part", () -> x.dimmer(12, 1, 1));
        Check.invalid(x, "a ninth dimmer without pace", () -> x.dimmer(0, 0, 1));
        Check.invalid(x, "a ninth dimmer with a wrong life", () -> x.dimmer(0, 1, 10000));
        Check.absent(x, "a wrong lamp for no dimmer", () -> x.lamp(8, 10000));
        Check.absent(x, "a wrong lamp for dimmer -1", () -> x.lamp(-1, -1));
        Check.invalid(x, "a star too many at no degree", () -> x.star(360, 1));
        Check.invalid(x, "a star too many without light", () -> x.star(0, 0));
        Check.invalid(x, "a cue too many at a wrong time", () -> x.cue(-1, 4, 0, 0));
        Check.invalid(x, "a cue too many of a wrong kind", () -> x.cue(0, -1, 0, 0));
        Check.invalid(x, "a cue too many for no dimmer", () -> x.cue(0, 0, 8, 0));
        Check.invalid(x, "a cue too many with a wrong b", () -> x.cue(0, 1, 0, 31));
        Check.absent(x, "a wrong aim for no dimmer", () -> x.fade(8, 101));
        Check.absent(x, "a wrong aim for dimmer -1", () -> x.fade(-1, -1));
        Check.invalid(x, "foresee of no ticks and no such number", () -> x.foresee(0, 0));
        Check.invalid(x, "foresee of too many ticks and no such number", () -> x.foresee(501, 13));
        Check.invalid(x, "foresee of too many ticks and a number that only count() has", () -> x.foresee(501, 12));
    }
}
