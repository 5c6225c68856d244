/** Promises 6, 8 to 13, 22 and 23: what a step does, and what can be read of it. */
public final class StepTests {
    private static final double NOWHERE = -1.0e6;
    private static final int[] NO_PLACES = {-1, 9, Integer.MIN_VALUE, Integer.MAX_VALUE};

    public static void main(String[] args) {
        runTellsHowMany();
        runRefuses();
        timeGrowsByH();
        aLevelThatIsHigherFlows();
        speedIsDampedByItsOldSize();
        partsAreCutToWholeOnes();
        anEighthAtMost();
        aDryCellGivesNothing();
        theOutsideGivesAllThatIsAsked();
        aFlowBeyondAllLongsIsAnEighthToo();
        landHasNoFaces();
        newLandTakesNothingMore();
        facesJoinNeighbours();
        allIsTakenFromTheBeginning();
        warmthAndSaltGoWithTheParts();
        facesAndRiversMixInTheirOrder();
        anEmptyCellKeepsItsWarmth();
        mudGrowsAboveItsSpeed();
        mudTakesTheGreatestSpeed();
        speedOfLayers();
        speedOfSides();
        speedOfNone();
        volumeInLimbs();
        throughInLimbs();
        throughOfNone();
        keptThroughAll();
        warmAndSaltOfLayers();
        warmAndSaltOfNone();
        iceIsNoneInWarmWater();
        mudOfNone();
        Check.end();
    }

    /** Two cells of ten metres, the first with so many parts more. */
    private static Sea heap(int more) {
        Sea sea = Sea.row(10.0, 0.0);
        sea.river(0, 0, more / 100.0);
        sea.run(1, 100.0);
        sea.river(0, 0, 0.0);
        sea.depth(1, 0, 10.0);
        return sea;
    }

    private static void runTellsHowMany() {
        Sea sea = Sea.row(10.0);
        Check.same("6 no step", sea.run(0, 1.0), 0);
        Check.same("6 one step", sea.run(1, 600.0), 1);
        Check.same("6 most steps", sea.run(200, 1.0), 200);
        sea.river(0, 0, 1.0);
        sea.run(7, 1.0);
        Check.same("6 so many", sea.volume(0), 10007);
        sea.run(0, 1.0);
        Check.same("6 none", sea.volume(0), 10007);
    }

    private static void runRefuses() {
        Sea sea = Sea.row(10.0);
        sea.river(0, 0, 1.0);
        int[] steps = {-1, 201, Integer.MIN_VALUE, Integer.MAX_VALUE};
        for (int n : steps) {
            Check.same("6 steps " + n, sea.run(n, 60.0), -1);
        }
        double[] sizes = {0.999, 600.001, 0.0, -1.0, Double.NaN, Double.POSITIVE_INFINITY,
            Double.NEGATIVE_INFINITY};
        for (double h : sizes) {
            Check.same("6 h " + h, sea.run(1, h), -1);
            Check.same("6 no steps of " + h, sea.run(0, h), -1);
        }
        Check.same("6 nothing done", sea.volume(0), 10000);
    }

    private static void timeGrowsByH() {
        Sea sea = new Sea(1, 1, 1);
        sea.border(1, 0, 1.0, 0.0);
        sea.run(3, 300.5);
        sea.run(200, 601.0);
        sea.depth(0, 0, 10.0);
        sea.run(1, 1.0);
        double t = 300.5 + 300.5 + 300.5;
        double outside = 1.0 * (1 - 4 * (t / 3600));
        Check.same("6 time", sea.speed(0, 0, 0, 0), Lines.speed(0.0, 1.0, 0.0 - outside, 0.0));
    }

    private static void aLevelThatIsHigherFlows() {
        Sea sea = heap(1000);
        sea.run(1, 60.0);
        double s = Lines.speed(0.0, 60.0, Lines.level(11000, 10.0) - Lines.level(10000, 10.0), 0.0);
        long q = (long) (s * 60.0 * (10000 * 0.001));
        Check.yes("6 something flows", q > 300 && q < 11000 / 8);
        Check.same("6 speed", sea.speed(0, 0, 0, 0), s);
        Check.same("6 before it", sea.level(0, 0), Lines.level(11000 - q, 10.0));
        Check.same("6 behind it", sea.level(1, 0), Lines.level(10000 + q, 10.0));

        Sea other = Sea.row(0.0, 10.0);
        other.river(1, 0, 10.0);
        other.run(1, 100.0);
        other.river(1, 0, 0.0);
        other.depth(0, 0, 8.0);
        other.run(1, 60.0);
        s = Lines.speed(0.0, 60.0, Lines.level(8000, 8.0) - Lines.level(11000, 10.0), 0.0);
        q = (long) (s * 60.0 * (8000 * 0.001));
        Check.yes("6 the other way", q < -200 && q > -11000 / 8);
        Check.same("6 to what is before", other.level(0, 0), Lines.level(8000 - q, 8.0));
        Check.same("6 from what is behind", other.level(1, 0), Lines.level(11000 + q, 10.0));
    }

    private static void speedIsDampedByItsOldSize() {
        Sea sea = heap(1000);
        sea.wind(0, -40.0, 90.0);
        long[] volume = {11000, 10000};
        double s = 0.0;
        for (int n = 0; n < 40; n++) {
            sea.run(1, 60.0);
            s = Lines.speed(s, 60.0, Lines.level(volume[0], 10.0) - Lines.level(volume[1], 10.0), -40.0);
            long q = (long) (s * 60.0 * (Math.min(volume[0], volume[1]) * 0.001));
            q = q < 0 ? -Math.min(-q, volume[1] / 8) : Math.min(q, volume[0] / 8);
            volume[0] -= q;
            volume[1] += q;
            Check.same("6 speed of step " + n, sea.speed(0, 0, 0, 0), s);
            Check.same("6 level of step " + n, sea.level(0, 0), Lines.level(volume[0], 10.0));
        }
    }

    private static void partsAreCutToWholeOnes() {
        // A wind of 100 makes 0.05 a second in 50 seconds: 2.5 parts over a metre, either way.
        Sea sea = Sea.row(1.0, 1.0);
        sea.wind(0, 100.0, 0.0);
        sea.run(1, 50.0);
        Check.same("6 cut", sea.level(1, 0), Lines.level(1002, 1.0));
        Sea slow = Sea.row(1.0, 1.0);
        slow.wind(0, 48.0, 0.0);
        slow.run(1, 50.0);
        Check.same("6 one part", slow.level(1, 0), Lines.level(1001, 1.0));
        Sea other = Sea.row(1.0, 1.0);
        other.wind(0, -100.0, 0.0);
        other.run(1, 50.0);
        Check.same("6 cut towards 0", other.level(1, 0), Lines.level(998, 1.0));
    }

    private static void anEighthAtMost() {
        Sea sea = Sea.row(0.103, 10.0);
        sea.wind(0, 100.0, 0.0);
        sea.run(1, 600.0);
        Check.same("6 an eighth, rounded down", sea.level(0, 0), Lines.level(103 - 12, 0.103));
        Sea other = Sea.row(10.0, 0.103);
        other.wind(0, -100.0, 0.0);
        other.run(1, 600.0);
        Check.same("6 of what is behind", other.level(1, 0), Lines.level(103 - 12, 0.103));
        Sea side = Sea.row(0.103);
        side.border(0, 0, 0.0, 0.0);
        side.border(1, 0, 0.0, 0.0);
        side.wind(0, 100.0, 0.0);
        side.run(1, 600.0);
        long in = (long) (Lines.speed(0.0, 600.0, 0.0, 100.0) * 600.0 * (103 * 0.001));
        Check.yes("6 more than an eighth asked", in > 12);
        Check.same("6 to the outside, too", side.through(1), -12);
        Check.same("6 but not from it", side.through(0), in);
    }

    private static void aDryCellGivesNothing() {
        Sea sea = Sea.row(0.0495, 10.0);
        sea.wind(0, 100.0, 0.0);
        sea.run(1, 600.0);
        Check.same("6 dry", sea.level(0, 0), Lines.level(49, 0.0495));
        Check.yes("6 its speed is there all the same", sea.speed(0, 0, 0, 0) > 0.5);
        Check.yes("6 and its mud", sea.mud(0, 0) > 0.0);
        Sea wet = Sea.row(0.0505, 10.0);
        wet.wind(0, 100.0, 0.0);
        wet.run(1, 600.0);
        Check.same("6 not dry", wet.level(0, 0), Lines.level(50 - 6, 0.0505));
        Sea other = Sea.row(0.0495, 10.0);
        other.wind(0, -100.0, 0.0);
        other.run(1, 600.0);
        double s = Lines.speed(0.0, 600.0, Lines.level(49, 0.0495) - 0.0, -100.0);
        long q = -(long) (s * 600.0 * (49 * 0.001));
        Check.yes("6 something is given", q > 10);
        Check.same("6 a dry one takes", other.level(0, 0), Lines.level(49 + q, 0.0495));
        Sea side = Sea.row(0.0495);
        side.border(1, 0, 0.0, 0.0);
        side.wind(0, 100.0, 0.0);
        side.run(1, 600.0);
        Check.same("6 nothing to the outside", side.through(1), 0);
    }

    private static void theOutsideGivesAllThatIsAsked() {
        for (int side = 0; side < 4; side++) {
            Sea sea = Sea.row(1.0);
            sea.border(side, 0, 20.0, 0.0);
            sea.run(1, 600.0);
            double s = Lines.speed(0.0, 600.0, 20.0 - 0.0, 0.0);
            long q = (long) (s * 600.0 * (1000 * 0.001));
            Check.yes("6 more than there is", q > 10000);
            Check.same("6 over side " + side, sea.through(side), q);
            Check.same("6 in its cell", sea.level(0, 0), Lines.level(1000 + q, 1.0));
            Check.same("6 warmth", sea.warm(0, 0, 0), (10.0 * 1000 + q * 8.0) / (1000 + q));
            Check.same("6 salt", sea.salt(0, 0, 0), (35.0 * 1000 + q * 34.0) / (1000 + q));
            sea.run(1, 600.0);
            Check.same("6 and back, an eighth", sea.through(side), q - (1000 + q) / 8);
        }
    }

    private static void aFlowBeyondAllLongsIsAnEighthToo() {
        for (int side = 0; side < 2; side++) {
            Sea sea = Sea.row(10.0);
            sea.river(0, 0, 1000.0);
            for (int n = 0; n < 480; n++) {
                sea.run(200, 600.0);
            }
            sea.river(0, 0, 0.0);
            sea.border(side, 0, 0.0, 0.0);
            long volume = 10000 + 480L * 200 * 600000;
            sea.run(1, 600.0);
            Check.same("6 out over side " + side, sea.through(side), -(volume / 8));
            Check.yes("11 kept", sea.kept());
        }
    }

    private static void landHasNoFaces() {
        Sea sea = Sea.row(10.0, 0.0, 10.0);
        sea.border(2, 0, 0.0, 0.0);
        sea.wind(0, 100.0, 0.0);
        sea.run(3, 600.0);
        Check.same("6 nothing to land", sea.level(0, 0), 0.0);
        Check.same("6 no speed to land", sea.speed(0, 0, 0, 0), 0.0);
        Check.same("6 none from land", sea.speed(1, 0, 0, 0), 0.0);
        Check.same("6 no mud", sea.mud(0, 0), 0.0);
        Check.same("6 side of land is no face", sea.volume(0), 20000);
    }

    private static void newLandTakesNothingMore() {
        Sea sea = heap(1000);
        sea.run(1, 60.0);
        sea.depth(1, 0, 0.0);
        long left = sea.volume(0);
        sea.run(2, 60.0);
        Check.same("6 nothing flows to new land", sea.volume(0), left);
        Check.same("6 its level stays", sea.level(0, 0), Lines.level(left, 10.0));
    }

    /** Five by four cells, each with a level of its own, and a face to each neighbour. */
    private static void facesJoinNeighbours() {
        Sea sea = new Sea(5, 4, 1);
        double[][] level = new double[6][5];
        for (int side = 0; side < 4; side++) {
            sea.border(side, 0, 2.0, 0.25);
        }
        long[] over = new long[4];
        for (int i = 0; i < 5; i++) {
            for (int j = 0; j < 4; j++) {
                double depth = 10.0 + i + 7 * j + 0.0009 * (i * i + 3 * j);
                sea.depth(i, j, depth);
                level[i][j] = Lines.level((long) (depth * 1000), depth);
                long q = (long) (Lines.speed(0.0, 600.0, 0.0 - level[i][j], 0.0) * 600.0
                    * ((long) (depth * 1000) * 0.001));
                over[0] += i == 0 ? q : 0;
                over[1] += i == 4 ? q : 0;
                over[2] += j == 0 ? q : 0;
                over[3] += j == 3 ? q : 0;
            }
        }
        sea.run(1, 600.0);
        for (int i = 0; i < 5; i++) {
            for (int j = 0; j < 4; j++) {
                Check.same("8 axis 0 from " + i + ", " + j, sea.speed(i, j, 0, 0),
                    Lines.speed(0.0, 600.0, level[i][j] - (i == 4 ? 0.0 : level[i + 1][j]), 0.0));
                Check.same("8 axis 1 from " + i + ", " + j, sea.speed(i, j, 0, 1),
                    Lines.speed(0.0, 600.0, level[i][j] - (j == 3 ? 0.0 : level[i][j + 1]), 0.0));
            }
        }
        for (int side = 0; side < 4; side++) {
            Check.yes("10 something over side " + side, over[side] != 0);
            Check.same("10 over side " + side, sea.through(side), over[side]);
        }
    }

    private static void allIsTakenFromTheBeginning() {
        Sea sea = Sea.row(10.0, 10.0, 10.0);
        sea.wind(0, 50.0, 0.0);
        sea.run(1, 60.0);
        double s = Lines.speed(0.0, 60.0, 0.0, 50.0);
        long q = (long) (s * 60.0 * 10.0);
        Check.yes("6 something flows", q > 10);
        Check.same("6 the first gives", sea.level(0, 0), Lines.level(10000 - q, 10.0));
        Check.same("6 the second passes on", sea.level(1, 0), Lines.level(10000, 10.0));
        Check.same("6 the third takes", sea.level(2, 0), Lines.level(10000 + q, 10.0));
        Check.same("6 both of one speed", sea.speed(1, 0, 0, 0), s);
    }

    private static void warmthAndSaltGoWithTheParts() {
        Sea sea = heap(1000);
        double warmth = (10.0 * 10000 + 1000 * 12.0) / 11000;
        double salt = (35.0 * 10000 + 1000 * 0.0) / 11000;
        Check.same("12 of the river", sea.warm(0, 0, 0), warmth);
        Check.same("13 of the river", sea.salt(0, 0, 0), salt);
        sea.run(1, 60.0);
        long q = Math.round((sea.level(1, 0) - 0.0) * 1000);
        Check.yes("12 something flows", q > 300);
        Check.same("12 of the giver", sea.warm(0, 0, 0), (warmth * 11000 - q * warmth) / (11000 - q));
        Check.same("12 of the taker", sea.warm(1, 0, 0), (10.0 * 10000 + q * warmth) / (10000 + q));
        Check.same("13 of the giver", sea.salt(0, 0, 0), (salt * 11000 - q * salt) / (11000 - q));
        Check.same("13 of the taker", sea.salt(1, 0, 0), (35.0 * 10000 + q * salt) / (10000 + q));
    }

    private static void facesAndRiversMixInTheirOrder() {
        // One cell with all four sides open and a river: sides 0 and 2 bring, 1 and 3 take.
        Sea sea = Sea.row(10.0);
        double[] phases = {0.0, 0.4, 0.1, 0.45};
        for (int side = 0; side < 4; side++) {
            sea.border(side, side, 1.5, phases[side]);
        }
        sea.river(0, 0, 7.3);
        sea.run(1, 60.0);
        double heat = 10.0 * 10000;
        double brine = 35.0 * 10000;
        long volume = 10000;
        for (int side = 0; side < 4; side++) {
            double f = phases[side];
            double outside = 0.0 + 1.5 * (1 - 4 * f);
            double s = Lines.speed(0.0, 60.0, outside - 0.0, 0.0);
            long q = (long) (s * 60.0 * 10.0);
            Check.same("10 over side " + side, sea.through(side), q);
            heat = q > 0 ? heat + q * 8.0 : heat - -q * 10.0;
            brine = q > 0 ? brine + q * 34.0 : brine - -q * 35.0;
            volume += q;
        }
        heat = heat + 438 * 12.0;
        volume += 438;
        Check.same("6 level of all", sea.level(0, 0), Lines.level(volume, 10.0));
        Check.same("12 of all", sea.warm(0, 0, 0), heat / volume);
        Check.same("13 of all", sea.salt(0, 0, 0), brine / volume);
    }

    private static void anEmptyCellKeepsItsWarmth() {
        Sea sea = Sea.row(0.0005);
        sea.run(2, 60.0);
        Check.same("12 no volume", sea.volume(0), 0);
        Check.same("12 warmth of none", sea.warm(0, 0, 0), 10.0);
        Check.same("13 salt of none", sea.salt(0, 0, 0), 35.0);
        sea.river(0, 0, 1.0);
        sea.run(1, 1.0);
        Check.same("12 warmth of one part", sea.warm(0, 0, 0), 12.0);
        Check.same("13 salt of one part", sea.salt(0, 0, 0), 0.0);
    }

    private static void mudGrowsAboveItsSpeed() {
        Sea sea = Sea.row(10.0, 10.0, 10.0, 0.0, 10.0);
        sea.wind(0, 100.0, 0.0);
        sea.run(1, 100.0);
        Check.same("23 too slow", sea.mud(0, 0), 0.0);
        sea.wind(0, -100.0, 0.0);
        sea.run(1, 600.0);
        double s = sea.speed(0, 0, 0, 0);
        double g = -s;
        Check.yes("23 fast enough, below 0", s < -0.2);
        Check.same("23 mud", sea.mud(0, 0), 0.0 + 0.001 * 600.0 * (g - 0.2));
        double first = sea.mud(0, 0);
        sea.run(1, 60.0);
        double after = sea.speed(0, 0, 0, 0);
        Check.yes("23 still fast", after < -0.2);
        Check.same("23 grows", sea.mud(0, 0), first + 0.001 * 60.0 * (-after - 0.2));
        Check.same("23 cell without faces", sea.mud(4, 0), 0.0);
        Sea slow = Sea.row(10.0, 10.0);
        slow.wind(0, 100.0, 0.0);
        slow.run(1, 200.5);
        double least = Lines.speed(0.0, 200.5, 0.0, 100.0);
        Check.yes("23 little more than 0.2", least > 0.2 && least < 0.201);
        Check.same("23 little mud", slow.mud(0, 0), 0.001 * 200.5 * (least - 0.2));
    }

    private static void mudTakesTheGreatestSpeed() {
        Sea sea = new Sea(2, 2, 1);
        sea.depth(0, 0, 10.0);
        sea.depth(1, 0, 10.0);
        sea.depth(0, 1, 10.0);
        sea.wind(0, 50.0, -90.0);
        sea.run(1, 600.0);
        double g0 = sea.speed(0, 0, 0, 0);
        double g1 = -sea.speed(0, 0, 0, 1);
        Check.yes("23 axis 1 is faster", g1 > g0 && g0 > 0.2);
        Check.same("23 greatest of both", sea.mud(0, 0), 0.0 + 0.001 * 600.0 * (g1 - 0.2));
        Check.same("23 of the one", sea.mud(1, 0), 0.0 + 0.001 * 600.0 * (g0 - 0.2));
        Check.same("23 of the other", sea.mud(0, 1), 0.0 + 0.001 * 600.0 * (g1 - 0.2));
        Sea side = Sea.row(10.0);
        side.border(2, 0, 0.0, 0.0);
        side.wind(0, 0.0, 80.0);
        side.run(1, 600.0);
        double s = Lines.speed(0.0, 600.0, 0.0, 80.0);
        Check.same("23 of a side", side.mud(0, 0), 0.0 + 0.001 * 600.0 * (s - 0.2));
    }

    private static void speedOfLayers() {
        for (int layers = 1; layers <= 4; layers++) {
            Sea sea = new Sea(2, 2, layers);
            sea.depth(0, 0, 10.0);
            sea.depth(1, 0, 10.0);
            sea.depth(0, 1, 10.0);
            sea.wind(0, 60.0, -80.0);
            sea.run(1, 60.0);
            double s0 = Lines.speed(0.0, 60.0, 0.0, 60.0);
            double s1 = Lines.speed(0.0, 60.0, 0.0, -80.0);
            for (int layer = 0; layer < layers; layer++) {
                double times = 1 + 0.25 * (layers - 1 - 2 * layer);
                Check.same("8 layer " + layer + " of " + layers, sea.speed(0, 0, layer, 0), s0 * times);
                Check.same("8 axis 1", sea.speed(0, 0, layer, 1), s1 * times);
            }
            Check.same("8 layer beyond " + layers, sea.speed(0, 0, layers, 0), 0.0);
            Check.same("8 layer -1", sea.speed(0, 0, -1, 0), 0.0);
            Check.same("8 least layer", sea.speed(0, 0, Integer.MIN_VALUE, 0), 0.0);
            Check.same("8 greatest layer", sea.speed(0, 0, Integer.MAX_VALUE, 0), 0.0);
        }
    }

    private static void speedOfSides() {
        Sea sea = new Sea(2, 2, 1);
        for (int k = 0; k < 4; k++) {
            sea.depth(k / 2, k % 2, 10.0);
        }
        sea.border(1, 0, 2.0, 0.0);
        sea.border(3, 0, 1.0, 0.0);
        sea.wind(0, 10.0, 20.0);
        sea.run(1, 60.0);
        for (int k = 0; k < 2; k++) {
            Check.same("8 side 1", sea.speed(1, k, 0, 0), Lines.speed(0.0, 60.0, 0.0 - 2.0, 10.0));
            Check.same("8 side 3", sea.speed(k, 1, 0, 1), Lines.speed(0.0, 60.0, 0.0 - 1.0, 20.0));
            Check.same("8 within", sea.speed(0, k, 0, 0), Lines.speed(0.0, 60.0, 0.0, 10.0));
            Check.same("8 within, axis 1", sea.speed(k, 0, 0, 1), Lines.speed(0.0, 60.0, 0.0, 20.0));
        }
        Sea other = Sea.row(10.0, 10.0);
        other.border(0, 0, 2.0, 0.0);
        other.border(2, 0, 2.0, 0.0);
        other.run(1, 60.0);
        Check.same("8 side 0 lies before", other.speed(0, 0, 0, 0), 0.0);
        Check.same("8 side 1 is not open", other.speed(1, 0, 0, 0), 0.0);
        Check.same("8 side 2 lies before", other.speed(0, 0, 0, 1), 0.0);
        Check.yes("8 but both are there", other.through(0) > 0 && other.through(2) > 0);
    }

    private static void speedOfNone() {
        Sea sea = Sea.row(10.0, 10.0);
        sea.wind(0, 100.0, 0.0);
        sea.run(1, 60.0);
        Check.yes("8 a speed", sea.speed(0, 0, 0, 0) > 0.0);
        for (int none : NO_PLACES) {
            Check.same("8 i " + none, sea.speed(none, 0, 0, 0), 0.0);
            Check.same("8 j " + none, sea.speed(0, none, 0, 0), 0.0);
            Check.same("8 axis " + none, sea.speed(0, 0, 0, none), 0.0);
        }
        Check.same("8 axis 2", sea.speed(0, 0, 0, 2), 0.0);
        Check.same("8 no face of axis 1", sea.speed(0, 0, 0, 1), 0.0);
        sea.depth(1, 0, 0.0);
        Check.same("8 to land", sea.speed(0, 0, 0, 0), 0.0);
    }

    private static void volumeInLimbs() {
        Sea sea = new Sea(12, 1, 1);
        Check.same("9 none", sea.volume(0), 0);
        for (int i = 0; i < 12; i++) {
            sea.depth(i, 0, 1000.0);
            sea.river(i, 0, 1000.0);
        }
        Check.same("9 low", sea.volume(0), 12000000);
        Check.same("9 high", sea.volume(1), 0);
        long due = 12000000;
        for (int n = 0; n < 4; n++) {
            sea.run(200, 600.0);
            due += 12L * 200 * 600000;
            Check.same("9 low, without sign", sea.volume(0), due & 0xFFFFFFFFL);
            Check.same("9 what is above", sea.volume(1), due >> 32);
        }
        Check.yes("9 above 32 bits", sea.volume(1) == 1);
        int[] limbs = {-1, 2, 3, Integer.MIN_VALUE, Integer.MAX_VALUE};
        for (int limb : limbs) {
            Check.same("9 limb " + limb, sea.volume(limb), CellCurrents.NONE);
        }
        Check.yes("11 kept", sea.kept());
    }

    private static void throughInLimbs() {
        Sea sea = Sea.row(10.0);
        sea.border(1, 0, 2.0, 0.5);
        sea.run(1, 60.0);
        double s = Lines.speed(0.0, 60.0, 0.0 - -2.0, 0.0);
        long out = (long) (s * 60.0 * 10.0);
        Check.yes("10 something went", out > 100);
        Check.same("10 low, without sign", sea.through(1, 0), -out & 0xFFFFFFFFL);
        Check.same("10 high, with sign", sea.through(1, 1), -1);
        Check.same("10 other side", sea.through(0, 0), 0);
        Check.same("10 other side, high", sea.through(0, 1), 0);
        Sea deep = Sea.row(1000.0);
        for (int wave = 0; wave < 8; wave++) {
            deep.border(3, wave, 20.0, 0.0);
        }
        deep.run(1, 600.0);
        long in = deep.through(3);
        Check.same("10 above 32 bits", in, (long) (Lines.speed(0.0, 600.0, 0.0 - 160.0, 0.0) * 600.0 * 1000.0) * -1);
        deep.run(7, 600.0);
        Check.yes("11 kept", deep.kept());
    }

    private static void throughOfNone() {
        Sea sea = Sea.row(10.0);
        sea.border(0, 0, 2.0, 0.0);
        sea.run(1, 60.0);
        int[] none = {-1, 4, Integer.MIN_VALUE, Integer.MAX_VALUE};
        for (int k : none) {
            Check.same("10 side " + k, sea.through(k, 0), CellCurrents.NONE);
            Check.same("10 limb " + k, sea.through(0, k), CellCurrents.NONE);
        }
        Check.same("10 limb 2", sea.through(0, 2), CellCurrents.NONE);
    }

    private static void keptThroughAll() {
        Sea sea = new Sea(4, 3, 1);
        for (int k = 0; k < 12; k++) {
            sea.depth(k % 4, k / 4, 3.0 + k);
        }
        for (int side = 0; side < 4; side++) {
            sea.border(side, side, 1.0 + side, 0.2 * side);
        }
        sea.river(2, 1, 11.5);
        sea.wind(0, 30.0, -60.0);
        long first = sea.volume(0);
        sea.run(100, 120.0);
        Check.yes("11 kept", sea.kept());
        long over = 0;
        for (int side = 0; side < 4; side++) {
            Check.yes("11 something came over " + side, sea.through(side) != 0);
            over += sea.through(side);
        }
        Check.same("11 all of it", sea.volume(0), first + over + 100 * 1380);
        sea.depth(2, 1, 0.0);
        Check.yes("11 kept when some is taken away", sea.kept());
        sea.depth(2, 1, 4.0);
        sea.run(10, 60.0);
        Check.yes("11 kept again", sea.kept());
    }

    private static void warmAndSaltOfLayers() {
        Sea sea = new Sea(1, 1, 4);
        sea.depth(0, 0, 10.0);
        for (int layer = 0; layer < 4; layer++) {
            Check.same("12 layer " + layer, sea.warm(0, 0, layer), 10.0 - 0.5 * layer);
            Check.same("13 layer " + layer, sea.salt(0, 0, layer), 35.0 + 0.1 * layer);
        }
    }

    private static void warmAndSaltOfNone() {
        Sea sea = new Sea(2, 1, 2);
        sea.depth(0, 0, 10.0);
        Check.same("12 land", sea.warm(1, 0, 0), NOWHERE);
        Check.same("13 land", sea.salt(1, 0, 0), NOWHERE);
        for (int none : NO_PLACES) {
            Check.same("12 i " + none, sea.warm(none, 0, 0), NOWHERE);
            Check.same("12 j " + none, sea.warm(0, none, 0), NOWHERE);
            Check.same("12 layer " + none, sea.warm(0, 0, none), NOWHERE);
            Check.same("13 i " + none, sea.salt(none, 0, 0), NOWHERE);
            Check.same("13 j " + none, sea.salt(0, none, 0), NOWHERE);
            Check.same("13 layer " + none, sea.salt(0, 0, none), NOWHERE);
        }
        Check.same("12 layer 2", sea.warm(0, 0, 2), NOWHERE);
        Check.same("13 layer 2", sea.salt(0, 0, 2), NOWHERE);
    }

    private static void iceIsNoneInWarmWater() {
        Sea sea = Sea.row(10.0, 0.0);
        Check.same("22 at 10.0", sea.ice(0, 0), 0.0);
        sea.border(0, 0, 20.0, 0.0);
        sea.run(20, 600.0);
        Check.yes("22 colder", sea.warm(0, 0, 0) < 9.0);
        Check.same("22 at 8.0 and more", sea.ice(0, 0), 0.0);
        Check.same("22 land", sea.ice(1, 0), 0.0);
        for (int none : NO_PLACES) {
            Check.same("22 i " + none, sea.ice(none, 0), 0.0);
            Check.same("22 j " + none, sea.ice(0, none), 0.0);
        }
    }

    private static void mudOfNone() {
        Sea sea = Sea.row(10.0, 10.0);
        sea.wind(0, 100.0, 0.0);
        sea.run(1, 600.0);
        Check.yes("23 mud", sea.mud(0, 0) > 0.0);
        for (int none : NO_PLACES) {
            Check.same("23 i " + none, sea.mud(none, 0), 0.0);
            Check.same("23 j " + none, sea.mud(0, none), 0.0);
        }
        sea.depth(0, 0, 0.0);
        Check.same("23 land", sea.mud(0, 0), 0.0);
        sea.depth(0, 0, 10.0);
        Check.same("23 water again", sea.mud(0, 0), 0.0);
    }
}
