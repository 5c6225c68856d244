/**
 * Edges of the second half of "Terms": a step, what flows at most, warmth and salt that go with it,
 * mud, beds, and the order of checks. Each test quotes the sentence that it holds.
 */
public final class StepEdgeTests {
    private static final int NONE = CellCurrents.NONE;

    public static void main(String[] args) {
        equalLevelsDoNotPush();
        windPushesEitherWay();
        aSpeedIsDampedByItsSizeBefore();
        theLesserVolumeCounts();
        theVolumeOfTheCellAloneAtASide();
        anEighthAndAPartLessOrMore();
        anEighthIsRoundedDown();
        anEighthOverSides();
        anEighthOfTheBeginning();
        aDryCellGivesNothing();
        aSinglePartHasItsGiver();
        aDryCellGivesNothingOverSides();
        aDryCellTakes();
        theOutsideIsNoCell();
        levelsAreOfTheBeginning();
        heatGoesFaceByFace();
        heatGoesOverSidesInTheirOrder();
        sidesComeAfterOtherFaces();
        saltGoesLikewise();
        theOutsideHasItsWarmthAndSalt();
        warmthStaysWithoutVolume();
        mudAboveItsSpeed();
        mudOfTheGreatestSize();
        timeGrowsStepByStep();
        bedsShareWhatIsLeftOver();
        bedsGrowByWhatIsLeftOver();
        bedsFallByWhatIsLeftOver();
        manyFaultsAtOnce();
        readingChangesNothing();
        Check.end();
    }

    /** The depth of a cell that holds just so many parts. */
    private static double depthFor(long parts) {
        return (parts + 0.5) / 1000;
    }

    private static long partsOf(Sea sea, int i, double depth) {
        return Math.round((sea.level(i, 0) + depth) * 1000);
    }

    /** What a wind moves in a first step of ten minutes from a cell to the one behind it. */
    private static long moved(long before, long behind, double wind) {
        Sea sea = Sea.row(depthFor(before), depthFor(behind));
        sea.wind(0, wind, 0.0);
        sea.run(1, 600.0);
        long q = before - partsOf(sea, 0, depthFor(before));
        Check.same("Terms, step: what one gives the other takes",
            partsOf(sea, 1, depthFor(behind)) - behind, q);
        return q;
    }

    /** What the same step asks for. */
    private static long asked(long before, long behind, double wind) {
        double d = Lines.level(before, depthFor(before)) - Lines.level(behind, depthFor(behind));
        return Lines.asked(Lines.speed(0.0, 600.0, d, wind), 600.0, Math.min(before, behind));
    }

    // ---- speeds

    /** Terms: "d is the level before it less that behind it": 0.0, a part above it, a part below. */
    private static void equalLevelsDoNotPush() {
        for (int more = -1; more <= 1; more++) {
            Sea sea = Sea.row(10.0, 10.0, 0.0);
            sea.river(more < 0 ? 1 : 0, 0, Math.abs(more));
            sea.run(1, 1.0);
            sea.river(more < 0 ? 1 : 0, 0, 0.0);
            Check.same("Terms, d: speed at first", sea.speed(0, 0, 0, 0), 0.0);
            double d = Lines.level(10000 + Math.max(more, 0), 10.0) - Lines.level(10000 + Math.max(-more, 0), 10.0);
            sea.run(1, 600.0);
            double s = sea.speed(0, 0, 0, 0);
            Check.same("Terms, d: " + more, s, Lines.speed(0.0, 600.0, d, 0.0));
            Check.same("Terms, d: its side", s > 0.0 ? 1 : s < 0.0 ? -1 : 0, more);
        }
    }

    /** Terms: "w the wind of its axis": -100.0, 0.0 and 100.0 on each axis. */
    private static void windPushesEitherWay() {
        double[] winds = {-100.0, -0.0, 0.0, 100.0};
        for (double u : winds) {
            for (double v : winds) {
                Sea sea = Sea.even(2, 2, 10.0);
                sea.wind(0, u, v);
                sea.run(1, 60.0);
                Check.same("Terms, w: axis 0", sea.speed(0, 0, 0, 0), Lines.speed(0.0, 60.0, 0.0, u));
                Check.same("Terms, w: axis 1", sea.speed(0, 0, 0, 1), Lines.speed(0.0, 60.0, 0.0, v));
            }
        }
    }

    /** Terms: "(1 + 0.002 * h * (the size of s before))": size, so below 0.0 as above it. */
    private static void aSpeedIsDampedByItsSizeBefore() {
        for (int sign = -1; sign <= 1; sign += 2) {
            Sea sea = Sea.row(0.0495, 0.0495);
            sea.wind(0, sign * 100.0, 0.0);
            double s = 0.0;
            for (int n = 0; n < 5; n++) {
                s = Lines.speed(s, 600.0, 0.0, sign * 100.0);
                sea.run(1, 600.0);
                Check.same("Terms, speed: step " + n, sea.speed(0, 0, 0, 0), s);
            }
            sea.wind(0, 0.0, 0.0);
            sea.run(100, 1.0);
            Check.yes("Terms, speed: damped, not turned",
                sign * sea.speed(0, 0, 0, 0) > 0.0 && sign * sea.speed(0, 0, 0, 0) < sign * s);
        }
    }

    // ---- flows

    /** Terms: "m is the lesser volume of both": on either side of the face, or on both. */
    private static void theLesserVolumeCounts() {
        long[][] volumes = {{8000, 9000}, {9000, 8000}, {8000, 8000}, {8000, 8001}, {8001, 8000}};
        for (long[] two : volumes) {
            Check.same("Terms, m: " + two[0] + " and " + two[1], moved(two[0], two[1], 20.0),
                Lines.asked(Lines.speed(0.0, 600.0, Lines.level(two[0], depthFor(two[0]))
                    - Lines.level(two[1], depthFor(two[1])), 20.0), 600.0, 8000));
        }
    }

    /** Terms: "(outside: that of the cell alone)": also where it has next to nothing, or nothing. */
    private static void theVolumeOfTheCellAloneAtASide() {
        long[] volumes = {0, 1, 7, 49, 50, 51, 1000000};
        for (long volume : volumes) {
            for (int side = 0; side < 4; side++) {
                double depth = volume == 1000000 ? 1000.0 : depthFor(volume);
                Sea sea = Sea.row(depth);
                sea.border(side, 0, 20.0, 0.0);
                sea.run(1, 600.0);
                double s = Lines.speed(0.0, 600.0, 20.0 - Lines.level(volume, depth), 0.0);
                Check.same("Terms, m: " + volume + " at side " + side, sea.through(side),
                    Lines.asked(s, 600.0, volume));
            }
        }
    }

    /** Terms: "but at most an eighth of the volume": just less asked, just so much, just more. */
    private static void anEighthAndAPartLessOrMore() {
        for (int parts = 998; parts <= 1002; parts++) {
            double wind = (parts + 0.5) / 28.8;
            Check.same("Terms, an eighth: asked", asked(8000, 8000, wind), parts);
            Check.same("Terms, an eighth: of " + parts, moved(8000, 8000, wind), Math.min(parts, 1000));
            Check.same("Terms, an eighth: back", moved(8000, 8000, -wind), -Math.min(parts, 1000));
        }
    }

    /** Terms: "an eighth of the volume before it (behind it, when below 0), rounded down". */
    private static void anEighthIsRoundedDown() {
        long[] volumes = {50, 55, 56, 57, 63, 64, 65, 103, 104, 7999, 8000, 8001, 8007, 8008};
        for (long volume : volumes) {
            Check.yes("Terms, an eighth: more is asked", asked(volume, 20000, 100.0) > volume / 8);
            Check.same("Terms, an eighth: before, of " + volume, moved(volume, 20000, 100.0), volume / 8);
            Check.same("Terms, an eighth: behind, of " + volume, moved(20000, volume, -100.0), -(volume / 8));
            Check.same("Terms, an eighth: of the giver, not of the taker", moved(20000, volume, 100.0),
                Math.min(asked(20000, volume, 100.0), 2500));
        }
    }

    /** Terms: an eighth at most "where that is a cell": what goes out, over each side. */
    private static void anEighthOverSides() {
        long[] volumes = {50, 55, 56, 57, 8007, 8008};
        for (long volume : volumes) {
            for (int side = 0; side < 4; side++) {
                Sea sea = Sea.row(depthFor(volume));
                sea.border(side, 0, 20.0, 0.5);
                sea.run(1, 600.0);
                Check.same("Terms, an eighth: of " + volume + " out over " + side, sea.through(side), -(volume / 8));
            }
        }
    }

    /** Terms: "all from what there is at the beginning": four faces take an eighth of it each. */
    private static void anEighthOfTheBeginning() {
        Sea sea = Sea.row(8.007);
        for (int side = 0; side < 4; side++) {
            sea.border(side, 0, 20.0, 0.5);
        }
        sea.run(1, 600.0);
        long volume = (long) (8.007 * 1000);
        for (int side = 0; side < 4; side++) {
            Check.same("Terms, an eighth: over " + side, sea.through(side), -(volume / 8));
        }
        Check.same("Terms, an eighth: what is left", sea.volume(), volume - 4 * (volume / 8));
    }

    /** Terms: "0 when that one is dry": 49 parts, and 50. */
    private static void aDryCellGivesNothing() {
        long[] volumes = {48, 49, 50, 51};
        for (long volume : volumes) {
            long due = volume < 50 ? 0 : volume / 8;
            Check.yes("Terms, dry: something is asked", asked(volume, 20000, 100.0) > 0);
            Check.same("Terms, dry: before, of " + volume, moved(volume, 20000, 100.0), due);
            Check.same("Terms, dry: behind, of " + volume, moved(20000, volume, -100.0), -due);
        }
        Check.same("Terms, dry: both", moved(49, 49, 100.0), 0);
        Check.same("Terms, dry: both, back", moved(49, 49, -100.0), 0);
    }

    /** Terms: "(behind it, when below 0)": from the first part on, the dry one being the other. */
    private static void aSinglePartHasItsGiver() {
        for (int parts = -2; parts <= 2; parts++) {
            double wind = (parts + 0.5 * Integer.signum(parts)) / 0.1764;
            Check.same("Terms, behind: asked of 20000", asked(49, 20000, wind), parts);
            Check.same("Terms, behind: asked of 49", asked(20000, 49, wind), parts);
            Check.same("Terms, behind: a dry one before, " + parts, moved(49, 20000, wind), Math.min(parts, 0));
            Check.same("Terms, behind: a dry one behind, " + parts, moved(20000, 49, wind), Math.max(parts, 0));
        }
    }

    /** Terms: 0 when that one is dry: towards what is outside, too. */
    private static void aDryCellGivesNothingOverSides() {
        for (int side = 0; side < 4; side++) {
            for (long volume = 49; volume <= 50; volume++) {
                Sea sea = Sea.row(depthFor(volume));
                sea.border(side, 0, 20.0, 0.5);
                sea.run(1, 600.0);
                Check.same("Terms, dry: " + volume + " out over " + side, sea.through(side), volume < 50 ? 0 : -6);
            }
        }
    }

    /** Terms: "that one" is the cell that gives: a dry one takes, from cells and from outside. */
    private static void aDryCellTakes() {
        Check.yes("Terms, dry: some is asked", asked(49, 20000, -100.0) < 0);
        Check.same("Terms, dry: takes from behind", moved(49, 20000, -100.0), asked(49, 20000, -100.0));
        Check.same("Terms, dry: takes from before", moved(20000, 49, 100.0), asked(20000, 49, 100.0));
        Sea sea = Sea.row(depthFor(49));
        sea.border(0, 0, 20.0, 0.0);
        sea.run(1, 600.0);
        Check.yes("Terms, dry: takes from outside", sea.through(0) > 49);
    }

    /** Terms: "where that is a cell": what comes from outside has no eighth and is never dry. */
    private static void theOutsideIsNoCell() {
        for (int side = 0; side < 4; side++) {
            Sea sea = Sea.row(depthFor(60));
            for (int wave = 0; wave < 8; wave++) {
                sea.border(side, wave, 20.0, 0.0);
            }
            sea.run(1, 600.0);
            double s = Lines.speed(0.0, 600.0, 160.0 - Lines.level(60, depthFor(60)), 0.0);
            Check.yes("Terms, outside: hundreds of times as much", Lines.asked(s, 600.0, 60) > 60 * 500);
            Check.same("Terms, outside: over " + side, sea.through(side), Lines.asked(s, 600.0, 60));
        }
    }

    /** Terms: "for each face, in order, all from what there is at the beginning": a row, both ways. */
    private static void levelsAreOfTheBeginning() {
        for (int sign = -1; sign <= 1; sign += 2) {
            Sea sea = Sea.row(10.0, 10.0, 10.0, 10.0);
            sea.wind(0, sign * 50.0, 0.0);
            sea.run(1, 60.0);
            double s = Lines.speed(0.0, 60.0, 0.0, sign * 50.0);
            long q = Lines.asked(s, 60.0, 10000);
            Check.yes("Terms, beginning: something flows", sign * q > 10);
            long[] due = {10000 - q, 10000, 10000, 10000 + q};
            for (int i = 0; i < 4; i++) {
                Check.same("Terms, beginning: level " + i, sea.level(i, 0), Lines.level(due[i], 10.0));
                Check.same("Terms, beginning: speed " + i, sea.speed(i, 0, 0, 0), i < 3 ? s : 0.0);
            }
        }
    }

    // ---- warmth and salt

    /** The warmth after flows { parts that come (below 0: go), their warmth }, one by one. */
    private static double heat(double warmth, long volume, double[]... flows) {
        double h = warmth * volume;
        long v = volume;
        for (double[] flow : flows) {
            h = flow[0] < 0 ? h - -flow[0] * flow[1] : h + flow[0] * flow[1];
            v += (long) flow[0];
        }
        return h / v;
    }

    /** Terms: "for each face of it, in order", "Then rivers": axis 0, axis 1, the river. */
    private static void heatGoesFaceByFace() {
        int[] others = new int[3];
        for (int n = 0; n < 60; n++) {
            Sea sea = new Sea(3, 3, 1);
            double[][] in = {giver(sea, 0, 1, 3 + n), giver(sea, 2, 1, 7 + n), giver(sea, 1, 0, 11 + n),
                giver(sea, 1, 2, 0), {200.0 * (1 + n), 12.0}};
            sea.depth(1, 1, depthFor(100));
            sea.river(1, 1, 1.0 + n);
            sea.wind(0, 0.0, 90.0);
            for (int k = 0; k < 4; k++) {
                in[k] = comes(100, in[k], k % 2 == 1, k < 2 ? 0.0 : 90.0);
            }
            Check.yes("Terms, H: three come, one goes",
                in[0][0] > 0 && in[1][0] > 0 && in[2][0] > 0 && in[3][0] < 0);
            sea.run(1, 200.0);
            double due = heat(10.0, 100, in);
            Check.same("Terms, H: by its faces, then the river", sea.warm(1, 1, 0), due);
            others[0] += due != heat(10.0, 100, in[3], in[2], in[1], in[0], in[4]) ? 1 : 0;
            others[1] += due != heat(10.0, 100, in[4], in[0], in[1], in[2], in[3]) ? 1 : 0;
            others[2] += due != heat(10.0, 100, in[2], in[3], in[0], in[1], in[4]) ? 1 : 0;
        }
        Check.yes("Terms, H: other orders would show", others[0] > 0 && others[1] > 0 && others[2] > 0);
    }

    /** A cell of ten metres beside land, after ten minutes of a river: { volume, warmth }. */
    private static double[] giver(Sea sea, int i, int j, int rate) {
        sea.depth(i, j, 10.0);
        sea.river(i, j, rate);
        sea.run(1, 600.0);
        sea.river(i, j, 0.0);
        long volume = 10000 + 600L * rate;
        return new double[] {volume, (10.0 * 10000 + 600 * rate * 12.0) / volume};
    }

    /** What a giver sends to a new cell of so few parts in 200 seconds, as heat() takes it. */
    private static double[] comes(long parts, double[] giver, boolean behind, double wind) {
        long volume = (long) giver[0];
        double d = Lines.level(volume, 10.0) - Lines.level(parts, depthFor(parts));
        double s = Lines.speed(0.0, 200.0, behind ? -d : d, wind);
        long q = Lines.asked(s, 200.0, parts);
        long in = behind ? -q : q;
        if (in < 0) {
            return new double[] {-Math.min(-in, parts / 8), 10.0};
        }
        return new double[] {Math.min(in, volume / 8), giver[1]};
    }

    /** Terms: "sides 0, 1, 2, 3": one cell that has all of them, some bring, some take. */
    private static void heatGoesOverSidesInTheirOrder() {
        int[] others = new int[2];
        double[] phases = {0.45, 0.1, 0.35, 0.0};
        for (int n = 0; n < 60; n++) {
            Sea sea = Sea.row(depthFor(100));
            long volume = 100 + 60 * (3 + n);
            sea.river(0, 0, 3.0 + n);
            sea.run(1, 60.0);
            sea.river(0, 0, 0.0);
            double warmth = (10.0 * 100 + 60 * (3 + n) * 12.0) / volume;
            double size = 1.0 + 0.03 * n;
            double[][] in = new double[4][];
            for (int side = 0; side < 4; side++) {
                sea.border(side, 0, size, phases[side]);
                double outside = 0.0 + size * Lines.saw(60.0 / 3600 + phases[side]);
                double d = outside - Lines.level(volume, depthFor(100));
                long q = Lines.asked(Lines.speed(0.0, 150.0, d, 0.0), 150.0, volume);
                in[side] = q < 0 ? new double[] {-Math.min(-q, volume / 8), warmth} : new double[] {q, 8.0};
            }
            sea.run(1, 150.0);
            double due = heat(warmth, volume, in);
            Check.same("Terms, H: by its sides", sea.warm(0, 0, 0), due);
            others[0] += due != heat(warmth, volume, in[3], in[2], in[1], in[0]) ? 1 : 0;
            others[1] += due != heat(warmth, volume, in[0], in[2], in[1], in[3]) ? 1 : 0;
        }
        Check.yes("Terms, H: other orders would show", others[0] > 0 && others[1] > 0);
    }

    /** Terms: faces "of axis 0 .. of axis 1 ..; sides": a side of axis 0 comes behind axis 1. */
    private static void sidesComeAfterOtherFaces() {
        int[] others = new int[2];
        for (int n = 0; n < 60; n++) {
            Sea sea = new Sea(2, 2, 1);
            double[] right = giver(sea, 1, 0, 2 + n);
            double[] below = giver(sea, 0, 1, 9 + 3 * n);
            sea.depth(0, 0, depthFor(100));
            sea.border(0, 0, 20.0, 0.75);
            double outside = 0.0 + 20.0 * Lines.saw(1200.0 / 3600 + 0.75);
            double d = outside - Lines.level(100, depthFor(100));
            long q = Lines.asked(Lines.speed(0.0, 200.0, d, 0.0), 200.0, 100);
            double[][] in = {comes(100, right, true, 0.0), comes(100, below, true, 0.0),
                {q, 8.0}};
            sea.run(1, 200.0);
            double due = heat(10.0, 100, in);
            Check.same("Terms, H: sides at last", sea.warm(0, 0, 0), due);
            others[0] += due != heat(10.0, 100, in[2], in[0], in[1]) ? 1 : 0;
            others[1] += due != heat(10.0, 100, in[0], in[2], in[1]) ? 1 : 0;
        }
        Check.yes("Terms, H: other orders would show", others[0] > 0 && others[1] > 0);
    }

    /** Terms: "salt likewise, with 0.0 for rivers": some comes fresh, some goes, a river brings none. */
    private static void saltGoesLikewise() {
        for (int n = 1; n < 20; n++) {
            Sea sea = Sea.row(10.0, 0.0, 10.0);
            sea.river(0, 0, n);
            sea.run(1, 60.0);
            sea.river(0, 0, 0.0);
            long fresh = 10000 + 60L * n;
            double salt = (35.0 * 10000 + 60 * n * 0.0) / fresh;
            sea.depth(1, 0, 10.0);
            sea.river(1, 0, 0.1 * n);
            sea.wind(0, 80.0, 0.0);
            sea.run(1, 60.0);
            double d = Lines.level(fresh, 10.0) - 0.0;
            long in = Lines.asked(Lines.speed(0.0, 60.0, d, 80.0), 60.0, 10000);
            long out = Lines.asked(Lines.speed(0.0, 60.0, 0.0, 80.0), 60.0, 10000);
            Check.yes("Terms, salt: less than an eighth comes, some goes", in < fresh / 8 && out > 0);
            long river = (long) (0.1 * n * 60.0);
            double first = 35.0 * 10000;
            Check.same("Terms, salt: of the giver", sea.salt(0, 0, 0), (salt * fresh - in * salt) / (fresh - in));
            Check.same("Terms, salt: of the one between", sea.salt(1, 0, 0),
                (first + in * salt - out * 35.0 + river * 0.0) / (10000 + in - out + river));
            Check.same("Terms, salt: of the last", sea.salt(2, 0, 0), (first + out * 35.0) / (10000 + out));
        }
    }

    /** Terms: "WARMTH and SALT that the cell it leaves (outside: 8.0, 34.0) had at the beginning". */
    private static void theOutsideHasItsWarmthAndSalt() {
        for (int side = 0; side < 4; side++) {
            Sea sea = Sea.row(0.0015);
            sea.border(side, 0, 20.0, 0.0);
            sea.run(1, 600.0);
            long q = sea.through(side);
            Check.yes("Terms, outside: more than there was", q > 10);
            Check.same("Terms, outside: warmth over " + side, sea.warm(0, 0, 0), (10.0 * 1 + q * 8.0) / (1 + q));
            Check.same("Terms, outside: salt over " + side, sea.salt(0, 0, 0), (35.0 * 1 + q * 34.0) / (1 + q));
        }
    }

    /** Terms: "Warmth is H / volume then, if there is volume": none, and one part. */
    private static void warmthStaysWithoutVolume() {
        Sea sea = Sea.row(0.0005, 0.0, 0.0005);
        sea.run(2, 600.0);
        Check.same("Terms, H: warmth without volume", sea.warm(0, 0, 0), 10.0);
        Check.same("Terms, H: salt without volume", sea.salt(0, 0, 0), 35.0);
        sea.river(0, 0, 1.0);
        sea.run(1, 1.0);
        Check.same("Terms, H: warmth of one part", sea.warm(0, 0, 0), 12.0);
        Check.same("Terms, H: salt of one part", sea.salt(0, 0, 0), 0.0);
        Check.same("Terms, H: the other still has none", sea.warm(2, 0, 0), 10.0);
    }

    // ---- mud and time

    /** Terms: "if that is above 0.2": just below it, at it, just above it, and the same below 0. */
    private static void mudAboveItsSpeed() {
        double[] times = {199.9, Math.nextDown(200.0), 200.0, Math.nextUp(200.0), 200.1};
        int[] sides = {-1, -1, 0, 1, 1};
        for (int k = 0; k < times.length; k++) {
            for (int sign = -1; sign <= 1; sign += 2) {
                Sea sea = Sea.row(10.0, 10.0);
                sea.wind(0, sign * 100.0, 0.0);
                sea.run(1, times[k]);
                double g = sign * sea.speed(0, 0, 0, 0);
                Check.same("Terms, mud: " + g + " beside 0.2", Double.compare(g, 0.2), sides[k]);
                double due = g > 0.2 ? 0.0 + 0.001 * times[k] * (g - 0.2) : 0.0;
                Check.same("Terms, mud: of the one at " + g, sea.mud(0, 0), due);
                Check.same("Terms, mud: of the other at " + g, sea.mud(1, 0), due);
                Check.same("Terms, mud: some at " + g, sea.mud(0, 0) > 0.0 ? 1 : 0, g > 0.2 ? 1 : 0);
            }
        }
    }

    /** Terms: "g being the greatest size of the speeds of its faces": any face, first or last. */
    private static void mudOfTheGreatestSize() {
        double[] phases = {0.0, 0.5, 0.0, 0.5};
        for (int fast = 0; fast < 4; fast++) {
            for (int up = 0; up < 2; up++) {
                Sea sea = Sea.row(10.0);
                for (int side = 0; side < 4; side++) {
                    sea.border(side, 0, 1.0 + 0.1 * side, phases[side]);
                }
                sea.border(fast, 0, 3.0, up == 0 ? 0.0 : 0.5);
                sea.run(1, 60.0);
                double g = Lines.speed(0.0, 60.0, 3.0, 0.0);
                Check.same("Terms, mud: side " + fast + " is fastest", sea.mud(0, 0), 0.0 + 0.001 * 60.0 * (g - 0.2));
            }
        }
    }

    /** Terms: "t grows by h": step by step, not by all steps at once. */
    private static void timeGrowsStepByStep() {
        Sea sea = new Sea(1, 1, 1);
        sea.border(1, 0, 20.0, 0.0);
        double h = 1.1;
        double t = 0.0;
        for (int n = 0; n < 600; n++) {
            t = t + h;
        }
        Check.yes("Terms, t: at once would show", t != 600 * h);
        for (int n = 0; n < 3; n++) {
            sea.run(200, h);
        }
        sea.depth(0, 0, 10.0);
        sea.run(1, 1.0);
        double outside = 0.0 + 20.0 * Lines.saw(t / 3600 + 0.0);
        double atOnce = 0.0 + 20.0 * Lines.saw(600 * h / 3600 + 0.0);
        Check.yes("Terms, t: levels differ", outside != atOnce);
        Check.same("Terms, t: " + t, sea.speed(0, 0, 0, 0), Lines.speed(0.0, 1.0, 0.0 - outside, 0.0));
    }

    // ---- beds

    /** Terms: "at first its volume / n, the first ones one more each, as many as are left over". */
    private static void bedsShareWhatIsLeftOver() {
        for (int n = 2; n <= 8; n++) {
            for (int parts = 0; parts <= 2 * n + 1; parts++) {
                Sea sea = Sea.row(depthFor(parts));
                Check.same("Terms, beds: nest of " + n, sea.nest(0, 0, n), 0);
                Check.yes("Terms, beds: " + n + " share " + parts, sea.equal(0));
            }
        }
    }

    /** Terms: "each grows by a n-th, rounded towards 0, the first ones by one more". */
    private static void bedsGrowByWhatIsLeftOver() {
        for (int n = 2; n <= 8; n++) {
            Sea sea = Sea.row(depthFor(n + 1));
            sea.nest(0, 0, n);
            for (int parts = 0; parts <= 2 * n + 1; parts++) {
                sea.river(0, 0, parts);
                sea.run(1, 1.0);
                Check.yes("Terms, beds: " + n + " grow by " + parts, sea.equal(0));
            }
            sea.river(0, 0, 1000.0);
            sea.run(7, 600.0);
            Check.yes("Terms, beds: " + n + " grow by much", sea.equal(0));
        }
    }

    /** Terms: "(or falls) .. (less), as many as are left over". */
    private static void bedsFallByWhatIsLeftOver() {
        for (int n = 2; n <= 8; n++) {
            for (int parts = 0; parts <= 9; parts++) {
                for (int sign = -1; sign <= 1; sign += 2) {
                    Sea sea = Sea.row(1.0, 1.0);
                    sea.nest(0, 0, n);
                    sea.nest(1, 0, 10 - n);
                    sea.wind(0, sign * 10.0 * (parts + 0.5), 0.0);
                    sea.run(1, 100.0);
                    Check.same("Terms, beds: what falls", sea.level(0, 0), Lines.level(1000 - sign * parts, 1.0));
                    Check.yes("Terms, beds: " + n + " of the one", sea.equal(0));
                    Check.yes("Terms, beds: " + (10 - n) + " of the other", sea.equal(1));
                }
            }
        }
    }

    // ---- checks

    /** Terms: "Checks are made in this order .. What is refused changes nothing": all faults at once. */
    private static void manyFaultsAtOnce() {
        Twins.unchanged("Terms, checks: depth", sea -> !sea.depth(-1, 9, Double.NaN));
        Twins.unchanged("Terms, checks: border", sea -> !sea.border(4, 8, 21.0, -1.0));
        Twins.unchanged("Terms, checks: wind", sea -> !sea.wind(24, 101.0, Double.NaN));
        Twins.unchanged("Terms, checks: river", sea -> !sea.river(3, 2, -1.0));
        Twins.unchanged("Terms, checks: run", sea -> sea.run(201, 0.5) == -1);
        Twins.unchanged("Terms, checks: nest", sea -> sea.nest(-1, -1, 9) == NONE);
        Twins.unchanged("Terms, checks: nest on land", sea -> sea.nest(2, 2, 1) == NONE);
        Twins.unchanged("Terms, checks: gauge", sea -> !sea.gauge(3, 2, 1001.0, 101.0));
        Twins.unchanged("Terms, checks: through", sea -> sea.through(4, 2) == NONE);
    }

    /** Terms: "What is refused changes nothing": no call that reads does, refused or not. */
    private static void readingChangesNothing() {
        Twins.unchanged("Terms, checks: reading", sea -> {
            for (int i = -1; i <= Twins.X; i++) {
                for (int j = -1; j <= Twins.Y; j++) {
                    sea.level(i, j);
                    sea.dry(i, j);
                    sea.warm(i, j, i);
                    sea.salt(i, j, j);
                    sea.ice(i, j);
                    sea.differs(i, j);
                }
            }
            sea.tide(1000.0);
            sea.tide(1001.0);
            return true;
        });
        Twins.unchanged("Terms, checks: reading what is none", sea -> {
            for (int none = -1; none <= 10; none += 11) {
                sea.mud(none, 0);
                sea.mud(0, none);
                sea.speed(none, 0, 0, 0);
                sea.speed(0, none, 0, 0);
                sea.speed(0, 0, none, 0);
                sea.speed(0, 0, 0, none);
                sea.volume(none);
                sea.through(none, 0);
                sea.through(0, none);
                sea.equal(none);
            }
            return sea.kept();
        });
    }
}
