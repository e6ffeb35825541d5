/** The console of a planetarium: dimmers, stars, comets, a narrator, and a show of cues that runs by its clock. */
public final class StarConsole {
    private static final int PARTS = 12;
    private static final int CIRCLE = 360;
    private static final int DEGREES_OF_A_PART = 30;

    private static final int MOST_DIMMERS = 8;
    private static final int MOST_STARS = 20;
    private static final int MOST_COMETS = 12;
    private static final int MOST_CUES = 24;

    private static final int TOP_PACE = 50;
    private static final int TOP_LIFE = 9999;
    private static final int TOP_LEVEL = 100;
    private static final int TOP_LIGHT = 9;
    private static final int TOP_BALL_SPEED = 30;
    private static final int TOP_COMET_SPEED = 20;
    private static final int TOP_LINE = 99;
    private static final int TOP_SPEECH = 60;
    private static final int TOP_CUE_TIME = 999;
    private static final int TOP_CLOCK = 1000;
    private static final int TOP_TICKS = 500;

    private static final int COMET_LIGHT = 6;
    private static final int COMET_TICKS = 20;
    private static final int SILENT = -1;
    private static final int NONE = -1;

    private static final int FADE = 0;
    private static final int TURN = 1;
    private static final int COMET = 2;
    private static final int SPEAK = 3;
    private static final int HOLD = 4;

    private static final int COUNTS = 13;
    private static final int FACTS_OF_A_DIMMER = 5;
    private static final int FACTS_OF_A_STAR = 4;
    private static final int FACTS_OF_A_COMET = 4;
    private static final int FACTS_OF_A_CUE = 4;

    private static final long DIGEST_START = 1109;
    private static final long DIGEST_FACTOR = 31;

    private final Stars stars;
    private final Cues cues;
    private final Show show;
    /** Made once and overwritten by every look ahead, so that no call makes objects. */
    private final Show ahead;

    public StarConsole() {
        stars = new Stars();
        cues = new Cues();
        show = new Show();
        ahead = new Show();
    }

    // ---- setting up

    public int dimmer(int part, int pace, int life) throws IllegalArgumentException, IllegalStateException {
        if (!within(part, 0, PARTS - 1)) {
            throw new IllegalArgumentException("part is not 0 to 11");
        }
        if (!within(pace, 1, TOP_PACE)) {
            throw new IllegalArgumentException("pace is not 1 to 50");
        }
        if (!within(life, 0, TOP_LIFE)) {
            throw new IllegalArgumentException("life is not 0 to 9999");
        }
        if (show.dimmers.size >= MOST_DIMMERS) {
            throw new IllegalStateException("there are 8 dimmers");
        }
        return show.dimmers.add(part, pace, life);
    }

    public int lamp(int dimmer, int life) throws IndexOutOfBoundsException, IllegalArgumentException {
        if (!show.dimmers.has(dimmer)) {
            throw new IndexOutOfBoundsException("there is no such dimmer");
        }
        if (!within(life, 0, TOP_LIFE)) {
            throw new IllegalArgumentException("life is not 0 to 9999");
        }
        return show.dimmers.changeLamp(dimmer, life);
    }

    public int star(int degree, int light) throws IllegalArgumentException, IllegalStateException {
        if (!within(degree, 0, CIRCLE - 1)) {
            throw new IllegalArgumentException("degree is not 0 to 359");
        }
        if (!within(light, 1, TOP_LIGHT)) {
            throw new IllegalArgumentException("light is not 1 to 9");
        }
        if (stars.size >= MOST_STARS) {
            throw new IllegalStateException("there are 20 stars");
        }
        return stars.add(degree, light);
    }

    public int cue(int time, int kind, int a, int b) throws IllegalArgumentException, IllegalStateException {
        if (!within(time, 0, TOP_CUE_TIME)) {
            throw new IllegalArgumentException("time is not 0 to 999");
        }
        if (!within(kind, FADE, HOLD)) {
            throw new IllegalArgumentException("kind is not 0 to 4");
        }
        if (!suits(kind, a, b)) {
            throw new IllegalArgumentException("a or b is not as this kind has it");
        }
        if (cues.size >= MOST_CUES) {
            throw new IllegalStateException("there are 24 cues");
        }
        return cues.add(time, kind, a, b);
    }

    // ---- the show

    public boolean run() {
        show.clockRuns = !show.clockRuns;
        return show.clockRuns;
    }

    public int jump(int time) throws IllegalArgumentException {
        if (!within(time, 0, TOP_CLOCK)) {
            throw new IllegalArgumentException("time is not 0 to 1000");
        }
        int before = show.clock;
        show.clock = time;
        return before;
    }

    public int fade(int dimmer, int aim) throws IndexOutOfBoundsException, IllegalArgumentException {
        if (!show.dimmers.has(dimmer)) {
            throw new IndexOutOfBoundsException("there is no such dimmer");
        }
        if (!within(aim, 0, TOP_LEVEL)) {
            throw new IllegalArgumentException("aim is not 0 to 100");
        }
        return show.dimmers.changeAim(dimmer, aim);
    }

    public int pass(int ticks) throws IllegalArgumentException {
        if (!within(ticks, 1, TOP_TICKS)) {
            throw new IllegalArgumentException("ticks is not 1 to 500");
        }
        return show.goOnFor(ticks, cues);
    }

    // ---- what is there

    public int told(int dimmer, int what) throws IndexOutOfBoundsException {
        if (!show.dimmers.has(dimmer)) {
            throw new IndexOutOfBoundsException("there is no such dimmer");
        }
        if (!within(what, 0, FACTS_OF_A_DIMMER - 1)) {
            throw new IndexOutOfBoundsException("what is not 0 to 4");
        }
        return show.dimmers.fact(dimmer, what);
    }

    public int glare(int part) throws IndexOutOfBoundsException {
        if (!within(part, 0, PARTS - 1)) {
            throw new IndexOutOfBoundsException("part is not 0 to 11");
        }
        return show.dimmers.glareOn(part);
    }

    public int about(int star, int what) throws IndexOutOfBoundsException {
        if (!stars.has(star)) {
            throw new IndexOutOfBoundsException("there is no such star");
        }
        if (!within(what, 0, FACTS_OF_A_STAR - 1)) {
            throw new IndexOutOfBoundsException("what is not 0 to 3");
        }
        return show.factOfStar(stars, star, what);
    }

    public int comet(int comet, int what) throws IndexOutOfBoundsException {
        if (!show.comets.has(comet)) {
            throw new IndexOutOfBoundsException("there is no such comet");
        }
        if (!within(what, 0, FACTS_OF_A_COMET - 1)) {
            throw new IndexOutOfBoundsException("what is not 0 to 3");
        }
        return show.factOfComet(comet, what);
    }

    public int count(int what) throws IndexOutOfBoundsException {
        if (!within(what, 0, COUNTS - 1)) {
            throw new IndexOutOfBoundsException("what is not 0 to 12");
        }
        return show.fact(what, stars, cues);
    }

    // ---- what would be

    public int next() {
        return cues.firstFrom(show.clock);
    }

    public int when(int cue) throws IndexOutOfBoundsException {
        if (!cues.has(cue)) {
            throw new IndexOutOfBoundsException("there is no such cue");
        }
        int time = cues.timeOf(cue);
        if (!show.clockRuns || time < show.clock || cues.holdWithin(show.clock, time)) {
            return NONE;
        }
        return time - show.clock + 1;
    }

    public int lasts(int dimmer) throws IndexOutOfBoundsException {
        if (!show.dimmers.has(dimmer)) {
            throw new IndexOutOfBoundsException("there is no such dimmer");
        }
        ahead.become(show);
        for (int ticks = 0; ticks <= TOP_TICKS; ticks++) {
            if (!ahead.dimmers.hasLife(dimmer)) {
                return ticks;
            }
            ahead.goOn(cues);
        }
        return NONE;
    }

    public int foresee(int ticks, int what) throws IllegalArgumentException, IndexOutOfBoundsException {
        if (!within(ticks, 1, TOP_TICKS)) {
            throw new IllegalArgumentException("ticks is not 1 to 500");
        }
        if (!foreseeable(what)) {
            throw new IndexOutOfBoundsException("what is not 1, 5, 7, 8 or 11");
        }
        ahead.become(show);
        ahead.goOnFor(ticks, cues);
        return ahead.fact(what, stars, cues);
    }

    public int darkest() {
        int darkest = 0;
        for (int part = 1; part < PARTS; part++) {
            if (show.dimmers.glareOn(part) < show.dimmers.glareOn(darkest)) {
                darkest = part;
            }
        }
        return darkest;
    }

    public double mean() {
        int sum = 0;
        for (int part = 0; part < PARTS; part++) {
            sum += show.dimmers.glareOn(part);
        }
        return (double) sum / PARTS;
    }

    public long digest() {
        long d = DIGEST_START;
        for (int what = 0; what < COUNTS; what++) {
            d = joined(d, show.fact(what, stars, cues));
        }
        for (int part = 0; part < PARTS; part++) {
            d = joined(d, show.dimmers.glareOn(part));
        }
        d = joinedDimmers(d);
        d = joinedStars(d);
        d = joinedComets(d);
        return joinedCues(d);
    }

    private long joinedDimmers(long start) {
        long d = start;
        for (int i = 0; i < show.dimmers.size; i++) {
            for (int what = 0; what < FACTS_OF_A_DIMMER; what++) {
                d = joined(d, show.dimmers.fact(i, what));
            }
        }
        return d;
    }

    private long joinedStars(long start) {
        long d = start;
        for (int i = 0; i < stars.size; i++) {
            for (int what = 0; what < FACTS_OF_A_STAR; what++) {
                d = joined(d, show.factOfStar(stars, i, what));
            }
        }
        return d;
    }

    private long joinedComets(long start) {
        long d = start;
        for (int i = 0; i < show.comets.size; i++) {
            for (int what = 0; what < FACTS_OF_A_COMET; what++) {
                d = joined(d, show.factOfComet(i, what));
            }
        }
        return d;
    }

    private long joinedCues(long start) {
        long d = start;
        for (int i = 0; i < cues.size; i++) {
            for (int what = 0; what < FACTS_OF_A_CUE; what++) {
                d = joined(d, cues.fact(i, what));
            }
        }
        return d;
    }

    private static long joined(long d, int x) {
        return d * DIGEST_FACTOR + x;
    }

    private boolean suits(int kind, int a, int b) {
        switch (kind) {
            case FADE:
                return show.dimmers.has(a) && within(b, 0, TOP_LEVEL);
            case TURN:
                return a == 0 && within(b, -TOP_BALL_SPEED, TOP_BALL_SPEED);
            case COMET:
                return within(a, 0, CIRCLE - 1) && within(b, -TOP_COMET_SPEED, TOP_COMET_SPEED);
            case SPEAK:
                return within(a, 0, TOP_LINE) && within(b, 1, TOP_SPEECH);
            case HOLD:
                return a == 0 && b == 0;
            default:
                return false;
        }
    }

    private static boolean foreseeable(int what) {
        return what == 1 || what == 5 || what == 7 || what == 8 || what == 11;
    }

    private static boolean within(int x, int least, int most) {
        return x >= least && x <= most;
    }

    private static int turned(int angle, int degrees) {
        return Math.floorMod(angle + degrees, CIRCLE);
    }

    /** The dimmers and their lamps. */
    private static final class Dimmers {
        int size;
        final int[] part = new int[MOST_DIMMERS];
        final int[] level = new int[MOST_DIMMERS];
        final int[] aim = new int[MOST_DIMMERS];
        final int[] pace = new int[MOST_DIMMERS];
        final int[] life = new int[MOST_DIMMERS];

        boolean has(int i) {
            return i >= 0 && i < size;
        }

        int add(int itsPart, int itsPace, int itsLife) {
            if (size >= MOST_DIMMERS) {
                return NONE;
            }
            int i = size;
            part[i] = itsPart;
            level[i] = 0;
            aim[i] = 0;
            pace[i] = itsPace;
            life[i] = itsLife;
            size = i + 1;
            return i;
        }

        int changeLamp(int i, int newLife) {
            if (!has(i)) {
                return NONE;
            }
            int before = life[i];
            life[i] = newLife;
            darkenWithoutLife(i);
            return before;
        }

        int changeAim(int i, int newAim) {
            if (!has(i)) {
                return NONE;
            }
            int before = aim[i];
            aim[i] = newAim;
            return before;
        }

        boolean hasLife(int i) {
            return has(i) && life[i] > 0;
        }

        void goOn() {
            for (int i = 0; i < size; i++) {
                level[i] = approached(level[i], aim[i], pace[i]);
                life[i] = Math.max(0, life[i] - level[i] / 10);
                darkenWithoutLife(i);
            }
        }

        private void darkenWithoutLife(int i) {
            if (has(i) && life[i] == 0) {
                level[i] = 0;
            }
        }

        private static int approached(int from, int to, int step) {
            return from < to ? Math.min(from + step, to) : Math.max(from - step, to);
        }

        int glareOn(int lit) {
            int sum = 0;
            for (int i = 0; i < size; i++) {
                int way = Math.floorMod(part[i] - lit, PARTS);
                if (way == 0) {
                    sum += level[i];
                } else if (way == 1 || way == PARTS - 1) {
                    sum += level[i] / 4;
                }
            }
            return sum;
        }

        int fact(int i, int what) {
            if (!has(i)) {
                return NONE;
            }
            switch (what) {
                case 0:
                    return part[i];
                case 1:
                    return level[i];
                case 2:
                    return aim[i];
                case 3:
                    return pace[i];
                default:
                    return life[i];
            }
        }

        void become(Dimmers other) {
            for (int i = 0; i < MOST_DIMMERS; i++) {
                part[i] = other.part[i];
                level[i] = other.level[i];
                aim[i] = other.aim[i];
                pace[i] = other.pace[i];
                life[i] = other.life[i];
            }
            size = other.size;
        }
    }

    /** The stars of the ball; no tick changes them. */
    private static final class Stars {
        int size;
        final int[] degree = new int[MOST_STARS];
        final int[] light = new int[MOST_STARS];

        boolean has(int i) {
            return i >= 0 && i < size;
        }

        int add(int itsDegree, int itsLight) {
            if (size >= MOST_STARS) {
                return NONE;
            }
            int i = size;
            degree[i] = itsDegree;
            light[i] = itsLight;
            size = i + 1;
            return i;
        }
    }

    /** All comets that have come, those that are gone too. */
    private static final class Comets {
        int size;
        final int[] angle = new int[MOST_COMETS];
        final int[] speed = new int[MOST_COMETS];
        final int[] left = new int[MOST_COMETS];

        boolean has(int i) {
            return i >= 0 && i < size;
        }

        void addIfRoom(int itsAngle, int itsSpeed) {
            if (size >= MOST_COMETS) {
                return;
            }
            int i = size;
            angle[i] = itsAngle;
            speed[i] = itsSpeed;
            left[i] = COMET_TICKS;
            size = i + 1;
        }

        void goOn() {
            for (int i = 0; i < size; i++) {
                if (left[i] > 0) {
                    angle[i] = turned(angle[i], speed[i]);
                    left[i]--;
                }
            }
        }

        void become(Comets other) {
            for (int i = 0; i < MOST_COMETS; i++) {
                angle[i] = other.angle[i];
                speed[i] = other.speed[i];
                left[i] = other.left[i];
            }
            size = other.size;
        }
    }

    /** The cues of the show; no tick changes them. */
    private static final class Cues {
        int size;
        final int[] time = new int[MOST_CUES];
        final int[] kind = new int[MOST_CUES];
        final int[] a = new int[MOST_CUES];
        final int[] b = new int[MOST_CUES];

        boolean has(int i) {
            return i >= 0 && i < size;
        }

        int add(int itsTime, int itsKind, int itsA, int itsB) {
            if (size >= MOST_CUES) {
                return NONE;
            }
            int i = size;
            time[i] = itsTime;
            kind[i] = itsKind;
            a[i] = itsA;
            b[i] = itsB;
            size = i + 1;
            return i;
        }

        int timeOf(int i) {
            return has(i) ? time[i] : NONE;
        }

        int firstFrom(int clock) {
            int first = NONE;
            for (int i = 0; i < size; i++) {
                if (time[i] >= clock && (first == NONE || time[i] < timeOf(first))) {
                    first = i;
                }
            }
            return first;
        }

        boolean holdWithin(int from, int before) {
            for (int i = 0; i < size; i++) {
                if (kind[i] == HOLD && time[i] >= from && time[i] < before) {
                    return true;
                }
            }
            return false;
        }

        int fact(int i, int what) {
            if (!has(i)) {
                return NONE;
            }
            switch (what) {
                case 0:
                    return time[i];
                case 1:
                    return kind[i];
                case 2:
                    return a[i];
                default:
                    return b[i];
            }
        }
    }

    /** All that a tick changes; a second one of these is the look ahead. */
    private static final class Show {
        int tick;
        int clock;
        boolean clockRuns;
        int ballAngle;
        int ballSpeed;
        int line = SILENT;
        int speechLeft;
        final Dimmers dimmers = new Dimmers();
        final Comets comets = new Comets();

        void become(Show other) {
            tick = other.tick;
            clock = other.clock;
            clockRuns = other.clockRuns;
            ballAngle = other.ballAngle;
            ballSpeed = other.ballSpeed;
            line = other.line;
            speechLeft = other.speechLeft;
            dimmers.become(other.dimmers);
            comets.become(other.comets);
        }

        int goOnFor(int ticks, Cues cues) {
            int ran = 0;
            for (int i = 0; i < ticks; i++) {
                ran += goOn(cues);
            }
            return ran;
        }

        int goOn(Cues cues) {
            int ran = clockRuns ? runCues(cues) : 0;
            dimmers.goOn();
            ballAngle = turned(ballAngle, ballSpeed);
            comets.goOn();
            speakOn();
            tick++;
            return ran;
        }

        private int runCues(Cues cues) {
            int ran = 0;
            for (int i = 0; i < cues.size; i++) {
                if (cues.time[i] == clock) {
                    obey(cues.kind[i], cues.a[i], cues.b[i]);
                    ran++;
                }
            }
            clock++;
            return ran;
        }

        private void obey(int kind, int a, int b) {
            switch (kind) {
                case FADE:
                    dimmers.changeAim(a, b);
                    break;
                case TURN:
                    ballSpeed = b;
                    break;
                case COMET:
                    comets.addIfRoom(a, b);
                    break;
                case SPEAK:
                    line = a;
                    speechLeft = b;
                    break;
                case HOLD:
                    clockRuns = false;
                    break;
                default:
                    break;
            }
        }

        private void speakOn() {
            if (speechLeft > 0) {
                speechLeft--;
            }
            if (speechLeft == 0) {
                line = SILENT;
            }
        }

        int fact(int what, Stars stars, Cues cues) {
            switch (what) {
                case 0:
                    return tick;
                case 1:
                    return clock;
                case 2:
                    return clockRuns ? 1 : 0;
                case 3:
                    return dimmers.size;
                case 4:
                    return stars.size;
                case 5:
                    return comets.size;
                case 6:
                    return cues.size;
                case 7:
                    return starsSeen(stars);
                case 8:
                    return cometsSeen();
                case 9:
                    return line;
                case 10:
                    return speechLeft;
                case 11:
                    return ballAngle;
                default:
                    return ballSpeed;
            }
        }

        int factOfStar(Stars stars, int i, int what) {
            if (!stars.has(i)) {
                return NONE;
            }
            switch (what) {
                case 0:
                    return stars.degree[i];
                case 1:
                    return stars.light[i];
                case 2:
                    return turned(stars.degree[i], ballAngle);
                default:
                    return starSeen(stars, i) ? 1 : 0;
            }
        }

        int factOfComet(int i, int what) {
            if (!comets.has(i)) {
                return NONE;
            }
            switch (what) {
                case 0:
                    return comets.angle[i];
                case 1:
                    return comets.speed[i];
                case 2:
                    return comets.left[i];
                default:
                    return cometSeen(i) ? 1 : 0;
            }
        }

        private int starsSeen(Stars stars) {
            int seen = 0;
            for (int i = 0; i < stars.size; i++) {
                if (starSeen(stars, i)) {
                    seen++;
                }
            }
            return seen;
        }

        private int cometsSeen() {
            int seen = 0;
            for (int i = 0; i < comets.size; i++) {
                if (cometSeen(i)) {
                    seen++;
                }
            }
            return seen;
        }

        private boolean starSeen(Stars stars, int i) {
            return stars.has(i) && outshines(turned(stars.degree[i], ballAngle), stars.light[i]);
        }

        private boolean cometSeen(int i) {
            return comets.has(i) && comets.left[i] > 0 && outshines(comets.angle[i], COMET_LIGHT);
        }

        private boolean outshines(int angle, int light) {
            return 10 * light > dimmers.glareOn(angle / DEGREES_OF_A_PART);
        }
    }
}
