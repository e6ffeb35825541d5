/** Each sentence of the document's promises 15 to 21 that names a boundary case, with a test of its own. */
public final class WouldBeEdgeTest {
    public static void main(String[] args) {
        nextReturns();
        whenReturns();
        whenAbsent();
        lastsReturns();
        lastsAbsent();
        foreseeTicks();
        foreseeWhat();
        foreseeReturns();
        foreseeFromTheMidst();
        foreseeInvalid();
        foreseeAbsent();
        darkestReturns();
        meanReturns();
        digestWrapsAround();
        Check.end();
    }

    static void nextReturns() {
        Check.says("next", "Returns the cue that is run next, if the clock runs on from now: of those with the least time that is not "
                + "less than the clock the one with the smallest number; -1 if there is none.");
        StarConsole x = new StarConsole();
        Check.same("without cues", x.next(), -1);
        x.cue(999, 1, 0, 1);
        x.cue(999, 1, 0, 1);
        x.cue(7, 4, 0, 0);
        x.cue(7, 1, 0, 1);
        x.cue(0, 1, 0, 1);
        x.cue(0, 1, 0, 1);
        int[] clocks = {0, 1, 7, 8, 998, 999, 1000};
        int[] due = {4, 2, 2, 0, 0, 0, -1};
        for (int i = 0; i < clocks.length; i++) {
            x.jump(clocks[i]);
            Check.same("of a held clock at " + clocks[i], x.next(), due[i]);
            x.run();
            Check.same("of a clock that runs at " + clocks[i], x.next(), due[i]);
            x.run();
        }
        x.run();
        x.pass(500);
        Check.same("far beyond all", x.next(), -1);
        x.jump(7);
        x.pass(500);
        Check.same("when a cue holds the clock", x.next(), 0);
    }

    static void whenReturns() {
        Check.says("when", "Returns behind how many ticks it has been run, if nothing is done (1, if it is run in the tick that is "
                + "next); -1 if it is not (as the clock is held now, or by a cue of an earlier time, or is beyond it; "
                + "nothing is changed).");
        StarConsole x = new StarConsole();
        int[] times = {0, 1, 500, 500, 501, 999};
        for (int i = 0; i < times.length; i++) {
            x.cue(times[i], i == 2 ? 4 : 1, 0, 0);
        }
        whens(x, "held at 0", -1, -1, -1, -1, -1, -1);
        x.run();
        whens(x, "running at 0", 1, 2, 501, 501, -1, -1);
        x.pass(1);
        whens(x, "running at 1", -1, 1, 500, 500, -1, -1);
        x.jump(500);
        whens(x, "running at 500", -1, -1, 1, 1, -1, -1);
        x.jump(501);
        whens(x, "running at 501, beyond the hold", -1, -1, -1, -1, 1, 499);
        x.jump(1000);
        whens(x, "running at 1000", -1, -1, -1, -1, -1, -1);
        x.jump(499);
        x.pass(500);
        whens(x, "held by a cue", -1, -1, -1, -1, -1, -1);
        x.run();
        whens(x, "running again", -1, -1, -1, -1, 1, 499);

        StarConsole held = new StarConsole();
        held.cue(3, 4, 0, 0);
        held.cue(4, 1, 0, 0);
        held.cue(3, 1, 0, 0);
        held.cue(2, 1, 0, 0);
        held.run();
        whens(held, "before the first cue holds it", 4, -1, 4, 3);

        StarConsole y = new StarConsole();
        y.cue(999, 1, 0, 1);
        y.run();
        Check.same("at most", y.when(0), 1000);
        y.pass(500);
        y.pass(499);
        Check.same("at least", y.when(0), 1);
        Check.same("it is so", y.pass(1), 1);
        Check.same("beyond it", y.when(0), -1);
    }

    private static void whens(StarConsole x, String state, int... due) {
        long before = x.digest();
        for (int cue = 0; cue < due.length; cue++) {
            Check.same(state + ", when(" + cue + ")", x.when(cue), due[cue]);
        }
        Check.same(state + ", digest()", x.digest(), before);
    }

    static void whenAbsent() {
        Check.says("when", "Throws `IndexOutOfBoundsException` if there is no such cue");
        StarConsole x = new StarConsole();
        Check.absent(x, "without cues", () -> x.when(0));
        for (int size = 1; size <= 24; size++) {
            x.cue(0, 4, 0, 0);
            for (int wrong : Check.outside(0, size - 1)) {
                Check.absent(x, size + " cues, when(" + wrong + ")", () -> x.when(wrong));
            }
            Check.same("the last one's", x.when(size - 1), -1);
        }
        x.run();
        Check.same("the first one's", x.when(0), 1);
        Check.same("the last one's", x.when(23), 1);
        Check.absent(x, "of a clock that runs, when(24)", () -> x.when(24));
    }

    static void lastsReturns() {
        Check.says("lasts", "Returns behind how many ticks its lamp has no life, if nothing is done: 0 if it has none, at most 500; "
                + "-1 if it has some by then (nothing is changed).");
        StarConsole x = new StarConsole();
        int[] lives = {0, 1, 499, 500, 501, 9999};
        int[] due = {0, 1, 499, 500, -1, -1};
        for (int i = 0; i < lives.length; i++) {
            x.dimmer(0, 50, lives[i]);
            x.fade(i, 19);
        }
        long before = x.digest();
        for (int i = 0; i < lives.length; i++) {
            Check.same("1 less of " + lives[i] + " a tick", x.lasts(i), due[i]);
        }
        Check.same("digest()", x.digest(), before);
        x.pass(1);
        Check.same("of one that is just burnt out", x.lasts(1), 0);
        Check.same("of 501 a tick later", x.lasts(4), 500);
        x.pass(499);
        Check.same("of 500 in the end", x.lasts(3), 0);
        Check.same("of 501 before its end", x.lasts(4), 1);
        x.fade(4, 9);
        Check.same("of one that is dimmed too far to wear", x.lasts(4), -1);
        x.fade(4, 19);
        x.cue(0, 0, 4, 0);
        Check.same("of one that a cue would dim, with the clock held", x.lasts(4), 1);
        x.run();
        Check.same("of one that a cue dims", x.lasts(4), -1);
        x.lamp(4, 0);
        Check.same("of one whose lamp is without life", x.lasts(4), 0);

        StarConsole bright = new StarConsole();
        bright.dimmer(0, 1, 9999);
        bright.fade(0, 100);
        bright.pass(100);
        bright.lamp(0, 100);
        Check.same("of one that shines already", bright.lasts(0), 10);
        bright.lamp(0, 101);
        Check.same("of one that shines already, for a little longer", bright.lasts(0), 11);
    }

    static void lastsAbsent() {
        Check.says("lasts", "Throws `IndexOutOfBoundsException` if there is no such dimmer");
        StarConsole x = new StarConsole();
        Check.absent(x, "without dimmers", () -> x.lasts(0));
        for (int size = 1; size <= 8; size++) {
            x.dimmer(0, 1, size % 2);
            for (int wrong : Check.outside(0, size - 1)) {
                Check.absent(x, size + " dimmers, lasts(" + wrong + ")", () -> x.lasts(wrong));
            }
            Check.same("the last one's", x.lasts(size - 1), size % 2 == 0 ? 0 : -1);
        }
        Check.same("the first one's", x.lasts(0), -1);
    }

    static void foreseeReturns() {
        Check.says("foresee", "Returns this, behind so many ticks, if nothing is done (nothing is changed).");
        StarConsole x = new StarConsole();
        x.dimmer(0, 50, 40);
        x.fade(0, 50);
        x.star(0, 5);
        x.star(180, 1);
        x.cue(0, 2, 300, 20);
        x.cue(499, 2, 0, 0);
        x.cue(500, 2, 0, 0);
        x.cue(2, 1, 0, -1);
        x.run();
        int[] asked = {1, 5, 7, 8, 11};
        int[] ticks = {1, 2, 3, 8, 19, 20, 500};
        int[][] due = {
            {1, 1, 1, 1, 0}, {2, 1, 1, 1, 0}, {3, 1, 2, 1, 359}, {8, 1, 2, 1, 354}, {19, 1, 2, 1, 343},
            {20, 1, 2, 0, 342}, {500, 2, 2, 1, Math.floorMod(-498, 360)},
        };
        long before = x.digest();
        for (int i = 0; i < ticks.length; i++) {
            for (int j = 0; j < asked.length; j++) {
                Check.same("foresee(" + ticks[i] + ", " + asked[j] + ")", x.foresee(ticks[i], asked[j]), due[i][j]);
            }
        }
        Check.same("digest()", x.digest(), before);
        int gone = 0;
        for (int i = 0; i < ticks.length; i++) {
            x.pass(ticks[i] - gone);
            gone = ticks[i];
            for (int j = 0; j < asked.length; j++) {
                Check.same("behind " + gone + " ticks, count(" + asked[j] + ")", x.count(asked[j]), due[i][j]);
            }
        }
        Check.same("the comet of time 500", x.foresee(1, 5), 3);
        x.run();
        Check.same("the clock that is held", x.foresee(500, 1), 500);
        Check.same("no comet of time 500 then", x.foresee(500, 5), 2);
    }

    static void foreseeTicks() {
        Check.says("foresee", "`ticks`: how many, 1 to 500");
        StarConsole x = new StarConsole();
        x.cue(0, 1, 0, 7);
        x.run();
        Check.same("of the fewest, the clock", x.foresee(1, 1), 1);
        Check.same("of the fewest, the angle", x.foresee(1, 11), 7);
        Check.same("of the most, the clock", x.foresee(500, 1), 500);
        Check.same("of the most, the angle", x.foresee(500, 11), 3500 % 360);
    }

    static void foreseeWhat() {
        Check.says("foresee", "`what`: 1, 5, 7, 8 or 11 as count() has it");
        StarConsole x = new StarConsole();
        x.star(0, 1);
        x.star(1, 1);
        x.star(2, 1);
        x.cue(5, 1, 0, 9);
        x.cue(5, 2, 0, 0);
        x.cue(5, 2, 0, 0);
        x.jump(5);
        x.run();
        x.pass(20);
        x.jump(5);
        Check.same("1, the clock", x.foresee(1, 1), 6);
        Check.same("5, comets in all", x.foresee(1, 5), 4);
        Check.same("7, stars that are seen", x.foresee(1, 7), 3);
        Check.same("8, comets that are seen", x.foresee(1, 8), 2);
        Check.same("11, the angle of the ball", x.foresee(1, 11), 189);
    }

    static void foreseeFromTheMidst() {
        Check.says("foresee", "Returns this, behind so many ticks, if nothing is done (nothing is changed).");
        StarConsole x = new StarConsole();
        x.dimmer(3, 10, 9999);
        x.star(95, 6);
        x.cue(0, 2, 200, 0);
        x.cue(0, 2, 70, 10);
        x.fade(0, 70);
        x.pass(7);
        x.run();
        x.pass(1);
        int[] ticks = {1, 3, 4, 18, 19};
        int[] seen = {1, 1, 2, 2, 0};
        for (int i = 0; i < ticks.length; i++) {
            Check.same("of comets on their way, foresee(" + ticks[i] + ", 8)", x.foresee(ticks[i], 8), seen[i]);
        }
        x.fade(0, 40);
        Check.same("of a star in a part that is yet too bright", x.foresee(1, 7), 0);
        Check.same("of a star in a part that is dark enough", x.foresee(2, 7), 1);
    }

    static void foreseeInvalid() {
        Check.says("foresee", "Throws `IllegalArgumentException` if ticks is not 1 to 500");
        StarConsole x = new StarConsole();
        x.run();
        for (int what : new int[] {1, 5, 7, 8, 11}) {
            for (int wrong : Check.outside(1, 500)) {
                Check.invalid(x, "foresee(" + wrong + ", " + what + ")", () -> x.foresee(wrong, what));
            }
        }
        Check.invalid(x, "foresee(-1, 1)", () -> x.foresee(-1, 1));
        Check.same("foresee(1, 1)", x.foresee(1, 1), 1);
        Check.same("foresee(500, 1)", x.foresee(500, 1), 500);
    }

    static void foreseeAbsent() {
        Check.says("foresee", "Throws `IndexOutOfBoundsException` if what is none of these");
        StarConsole x = new StarConsole();
        for (int wrong : new int[] {-1, 0, 2, 3, 4, 6, 9, 10, 12, 13, Integer.MIN_VALUE, Integer.MAX_VALUE}) {
            Check.absent(x, "foresee(1, " + wrong + ")", () -> x.foresee(1, wrong));
            Check.absent(x, "foresee(500, " + wrong + ")", () -> x.foresee(500, wrong));
        }
        for (int what : new int[] {5, 7, 8, 11}) {
            Check.same("foresee(1, " + what + ")", x.foresee(1, what), 0);
        }
    }

    /** Six lit parts, the odd ones from `part` on; each part between two of them has a quarter of both. */
    static void darkestReturns() {
        Check.says("darkest", "Returns the part with the least glare, of several the one with the smallest number.");
        Check.same("of twelve alike", new StarConsole().darkest(), 0);
        for (int part = 0; part < 12; part++) {
            StarConsole x = new StarConsole();
            for (int i = 0; i < 6; i++) {
                x.dimmer((part + 1 + 2 * i) % 12, 50, 9999);
                x.fade(i, 50);
            }
            x.pass(1);
            Check.same("of six alike", x.darkest(), part % 2);
            x.fade(0, 40);
            x.pass(1);
            Check.same("of two alike", x.darkest(), Math.min(part, (part + 2) % 12));
            x.fade(5, 40);
            x.pass(1);
            Check.same("of one alone", x.darkest(), part);
            Check.same("its glare", x.glare(part), 20);
        }
    }

    static void meanReturns() {
        Check.says("mean", "Returns the mean glare of all parts.");
        Check.same("of none", new StarConsole().mean(), 0.0);
        StarConsole x = new StarConsole();
        for (int i = 0; i < 8; i++) {
            x.dimmer(11, 50, 9999);
            x.fade(i, 100);
        }
        x.pass(2);
        Check.same("of the most there may be", x.mean(), 100.0);
        for (int i = 1; i < 8; i++) {
            x.fade(i, 0);
        }
        x.fade(0, 1);
        x.pass(2);
        Check.same("of the least there may be, which is not whole", x.mean(), 1 / 12.0);
    }

    static void digestWrapsAround() {
        Check.says("digest", "A number d starts with 1109; for each of the following numbers x, d becomes d * 31 + x, which wraps around "
                + "as a 64-bit integer: what count() tells, in its order; the glare of each part; for each dimmer what told() "
                + "tells, in its order; for each star what about() tells, in its order; for each comet what comet() tells, "
                + "in its order; for each cue its time, kind, a and b.");
        StarConsole x = new StarConsole();
        Check.same("of a new one", x.digest(), folded(x, new int[0][]));
        for (int i = 0; i < 8; i++) {
            x.dimmer(i, i + 1, 30 * i);
            x.fade(i, 12 * i);
        }
        for (int i = 0; i < 20; i++) {
            x.star(17 * i, i % 9 + 1);
        }
        Check.same("with the most dimmers and stars", x.digest(), folded(x, new int[0][]));
        int[][] cues = new int[24][];
        for (int i = 0; i < 24; i++) {
            cues[i] = i < 13 ? new int[] {0, 2, 27 * i, i - 10} : new int[] {40 * i, 1, 0, i - 40};
            x.cue(cues[i][0], cues[i][1], cues[i][2], cues[i][3]);
        }
        x.run();
        x.pass(10);
        Check.same("with the most of all", x.digest(), folded(x, cues));
        x.pass(500);
        Check.same("much later", x.digest(), folded(x, cues));
    }

    private static long folded(StarConsole x, int[][] cues) {
        long d = 1109;
        for (int what = 0; what <= 12; what++) {
            d = d * 31 + x.count(what);
        }
        for (int part = 0; part <= 11; part++) {
            d = d * 31 + x.glare(part);
        }
        for (int i = 0; i < x.count(3); i++) {
            for (int what = 0; what <= 4; what++) {
                d = d * 31 + x.told(i, what);
            }
        }
        for (int i = 0; i < x.count(4); i++) {
            for (int what = 0; what <= 3; what++) {
                d = d * 31 + x.about(i, what);
            }
        }
        for (int i = 0; i < x.count(5); i++) {
            for (int what = 0; what <= 3; what++) {
                d = d * 31 + x.comet(i, what);
            }
        }
        for (int[] cue : cues) {
            for (int number : cue) {
                d = d * 31 + number;
            }
        }
        return d;
    }
}
