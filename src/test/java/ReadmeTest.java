/** The example of README.md, with the answers that it tells. */
public final class ReadmeTest {
    public static void main(String[] args) {
        StarConsole console = new StarConsole();

        int lamp = console.dimmer(0, 10, 200);
        int star = console.star(5, 3);
        int fadeUp = console.cue(2, 0, lamp, 80);
        console.cue(3, 1, 0, 30);
        console.cue(3, 2, 90, -5);
        console.cue(4, 3, 7, 12);
        console.cue(8, 4, 0, 0);
        Check.same("the numbers", lamp + star + fadeUp, 0);

        Check.same("when(fadeUp) of a held clock", console.when(fadeUp), -1);
        Check.same("run()", console.run(), true);
        Check.same("when(fadeUp)", console.when(fadeUp), 3);
        Check.same("pass(4)", console.pass(4), 3);
        Check.same("its level", console.told(lamp, 1), 20);
        Check.same("where the star stands", console.about(star, 2), 35);
        Check.same("whether it is seen", console.about(star, 3), 1);
        Check.same("the angle of the comet", console.comet(0, 0), 85);
        Check.same("glare(0)", console.glare(0), 20);
        Check.same("glare(11)", console.glare(11), 5);
        Check.same("mean()", console.mean(), 2.5);
        Check.same("darkest()", console.darkest(), 2);

        Check.same("next()", console.next(), 3);
        Check.same("lasts(lamp)", console.lasts(lamp), 27);
        Check.same("foresee(20, 1)", console.foresee(20, 1), 9);
        Check.same("foresee(20, 11)", console.foresee(20, 11), 270);

        Check.invalid(console, "fade(lamp, 101)", () -> console.fade(lamp, 101));
        Check.absent(console, "told(1, 0)", () -> console.told(1, 0));
        Check.end();
    }
}
