/** Promises 15 to 21: next, when, lasts, foresee, darkest, mean, digest. */
public final class WouldBeTest {
    public static void main(String[] args) {
        nextIsTheLeastTime();
        whenCountsTicks();
        whenHeldByACue();
        lastsCountsTicks();
        lastsHeedsCues();
        foreseeTells();
        darkestIsTheFirst();
        meanOfAllParts();
        digestByHand();
        Check.end();
    }

    static void nextIsTheLeastTime() {
        StarConsole x = new StarConsole();
        x.cue(9, 4, 0, 0);
        x.cue(5, 4, 0, 0);
        x.cue(5, 1, 0, 1);
        x.cue(0, 1, 0, 1);
        Check.same("next() of a held clock", x.next(), 3);
        x.jump(1);
        Check.same("next() at 1", x.next(), 1);
        x.jump(5);
        Check.same("next() at 5", x.next(), 1);
        x.jump(6);
        Check.same("next() at 6, past a hold", x.next(), 0);
        x.jump(10);
        Check.same("next() at 10", x.next(), -1);
        x.cue(999, 4, 0, 0);
        x.jump(999);
        Check.same("next() at 999", x.next(), 4);
        x.jump(1000);
        Check.same("next() at 1000", x.next(), -1);
    }

    static void whenCountsTicks() {
        StarConsole x = new StarConsole();
        x.cue(0, 1, 0, 1);
        x.cue(999, 1, 0, 1);
        x.cue(20, 1, 0, 1);
        Check.same("when(0) of a held clock", x.when(0), -1);
        x.run();
        long before = x.digest();
        Check.same("when(0)", x.when(0), 1);
        Check.same("when(1)", x.when(1), 1000);
        Check.same("when(2)", x.when(2), 21);
        Check.same("digest() after when", x.digest(), before);
        x.pass(20);
        Check.same("when(0) beyond it", x.when(0), -1);
        Check.same("when(2) in the next tick", x.when(2), 1);
        x.pass(1);
        Check.same("when(2) beyond it", x.when(2), -1);
        x.jump(1000);
        Check.same("when(1) beyond it", x.when(1), -1);
    }

    static void whenHeldByACue() {
        StarConsole x = new StarConsole();
        x.cue(5, 4, 0, 0);
        x.cue(5, 1, 0, 1);
        x.cue(6, 1, 0, 1);
        x.cue(5, 1, 0, 1);
        x.cue(3, 1, 0, 1);
        x.run();
        Check.same("when of the hold itself", x.when(0), 6);
        Check.same("when of one of its time", x.when(1), 6);
        Check.same("when of a later time", x.when(2), -1);
        Check.same("when of an earlier time", x.when(4), 4);
        x.jump(6);
        Check.same("when past the hold", x.when(2), 1);
        x.jump(5);
        Check.same("when before a hold in the next tick", x.when(2), -1);
    }

    static void lastsCountsTicks() {
        StarConsole x = new StarConsole();
        x.dimmer(0, 50, 0);
        x.dimmer(0, 50, 20);
        x.dimmer(0, 50, 21);
        x.dimmer(0, 50, 20);
        for (int i = 0; i < 3; i++) {
            x.fade(i, 100);
        }
        long before = x.digest();
        Check.same("lasts without life", x.lasts(0), 0);
        Check.same("lasts of 5 and 10 and 10 of 20", x.lasts(1), 3);
        Check.same("lasts of 21", x.lasts(2), 3);
        Check.same("lasts without light", x.lasts(3), -1);
        Check.same("digest() after lasts", x.digest(), before);
        x.pass(2);
        Check.same("lasts then", x.lasts(1), 1);
        x.pass(1);
        Check.same("lasts of a burnt out one", x.lasts(1), 0);
    }

    static void lastsHeedsCues() {
        StarConsole x = new StarConsole();
        x.dimmer(0, 10, 3);
        x.cue(10, 0, 0, 10);
        Check.same("lasts of a held clock", x.lasts(0), -1);
        x.run();
        Check.same("lasts of a clock that runs", x.lasts(0), 13);
        x.cue(12, 0, 0, 0);
        Check.same("lasts of a light that goes out", x.lasts(0), -1);
    }

    static void foreseeTells() {
        StarConsole x = new StarConsole();
        x.dimmer(0, 50, 9999);
        x.star(0, 5);
        x.star(180, 1);
        x.cue(2, 0, 0, 100);
        x.cue(3, 1, 0, 30);
        x.cue(3, 2, 200, 1);
        x.cue(5, 4, 0, 0);
        x.run();
        long before = x.digest();
        Check.same("the clock", x.foresee(3, 1), 3);
        Check.same("the clock that a cue holds", x.foresee(500, 1), 6);
        Check.same("no comet yet", x.foresee(3, 5), 0);
        Check.same("a comet", x.foresee(4, 5), 1);
        Check.same("both stars", x.foresee(2, 7), 2);
        Check.same("one star", x.foresee(3, 7), 1);
        Check.same("both stars again", x.foresee(4, 7), 2);
        Check.same("a comet is seen", x.foresee(22, 8), 1);
        Check.same("it is gone", x.foresee(23, 8), 0);
        Check.same("the angle", x.foresee(4, 11), 30);
        Check.same("the angle in the end", x.foresee(500, 11), 497 * 30 % 360);
        Check.same("digest() after foresee", x.digest(), before);
        Check.same("the same again", x.foresee(3, 7), 1);
    }

    static void darkestIsTheFirst() {
        StarConsole x = new StarConsole();
        for (int i = 0; i < 4; i++) {
            x.dimmer(i * 3, 50, 9999);
            x.fade(i, 8);
        }
        x.pass(1);
        Check.same("darkest() of many", x.darkest(), 1);
        StarConsole last = new StarConsole();
        int[] lit = {1, 4, 7, 9};
        for (int i = 0; i < lit.length; i++) {
            last.dimmer(lit[i], 50, 9999);
            last.fade(i, 40);
        }
        last.pass(1);
        Check.same("darkest() is the last part", last.darkest(), 11);
    }

    static void meanOfAllParts() {
        StarConsole x = new StarConsole();
        x.dimmer(5, 50, 9999);
        x.fade(0, 7);
        x.pass(1);
        Check.same("mean() of 7 and 1 and 1", x.mean(), 9 / 12.0);
        x.fade(0, 50);
        x.pass(1);
        Check.same("mean() of 50 and 12 and 12", x.mean(), 74 / 12.0);
    }

    static void digestByHand() {
        Check.same("digest() of a new object", new StarConsole().digest(),
                folded(0, 0, 0, 0, 0, 0, 0, 0, 0, -1, 0, 0, 0, 0, 0, 0, 0, 0, 0, 0, 0, 0, 0, 0, 0));
        StarConsole x = new StarConsole();
        x.dimmer(11, 8, 20);
        x.dimmer(4, 50, 0);
        x.fade(0, 12);
        x.star(330, 1);
        x.cue(0, 2, 7, -3);
        x.cue(0, 3, 6, 2);
        x.cue(0, 1, 0, 4);
        x.run();
        x.pass(1);
        x.pass(1);
        Check.same("digest()", x.digest(), folded(
                2, 2, 1, 2, 1, 1, 3, 0, 1, -1, 0, 8, 4,
                3, 0, 0, 0, 0, 0, 0, 0, 0, 0, 3, 12,
                11, 12, 12, 8, 19, 4, 0, 0, 50, 0,
                330, 1, 338, 0,
                1, -3, 18, 1,
                0, 2, 7, -3, 0, 3, 6, 2, 0, 1, 0, 4));
    }

    private static long folded(int... numbers) {
        long d = 1109;
        for (int x : numbers) {
            d = d * 31 + x;
        }
        return d;
    }
}
