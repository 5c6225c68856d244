/** Edges of promises 1 to 6: a new object, depth, border, wind, river and run. */
public final class TellEdgeTests {
    private static final double NOWHERE = -1.0e6;

    public static void main(String[] args) {
        xFromOneToTwelve();
        yFromOneToTwelve();
        layersFromOneToFour();
        allLandOfAnySize();
        depthOfNoCell();
        depthsFromZeroToAThousand();
        depthsBeyond();
        depthZeroIsLand();
        depthMakesAllNew();
        depthStillsEveryFaceOfItsCell();
        depthStillsTheFacesAtSides();
        depthTakesTheBeds();
        bordersOfNoSide();
        bordersOfNoWave();
        sizesFromZeroToTwenty();
        phasesFromZeroToOne();
        aWaveToldAgainIsAnother();
        windsOfNoHour();
        windsFromMinusAHundredToAHundred();
        windsAreZeroAtFirst();
        windsOfEachHour();
        riversOfNoCell();
        riversOfLand();
        ratesFromZeroToAThousand();
        aRiverOfZeroIsNone();
        landTakesNoRiverButKeepsIt();
        stepsFromZeroToTwoHundred();
        secondsFromOneToSixHundred();
        noStepsDoNothing();
        Check.end();
    }

    // ---- promise 1

    /** Promise 1: "x and y below 1 are 1, above 12 they are 12": x. */
    private static void xFromOneToTwelve() {
        int[] told = {Integer.MIN_VALUE, -1, 0, 1, 2, 11, 12, 13, 24, Integer.MAX_VALUE};
        int[] due = {1, 1, 1, 1, 2, 11, 12, 12, 12, 12};
        for (int k = 0; k < told.length; k++) {
            Sea sea = new Sea(told[k], 2, 1);
            Check.yes("1 x " + told[k] + ": its last cell", sea.depth(due[k] - 1, 1, 3.0));
            Check.no("1 x " + told[k] + ": the next one", sea.depth(due[k], 1, 3.0));
            Check.same("1 x " + told[k] + ": volume", sea.volume(), 3000);
            Check.yes("1 x " + told[k] + ": y is as told", sea.depth(0, 1, 3.0));
            Check.no("1 x " + told[k] + ": and no more", sea.depth(0, 2, 3.0));
        }
    }

    /** Promise 1: "x and y below 1 are 1, above 12 they are 12": y. */
    private static void yFromOneToTwelve() {
        int[] told = {Integer.MIN_VALUE, -1, 0, 1, 2, 11, 12, 13, 24, Integer.MAX_VALUE};
        int[] due = {1, 1, 1, 1, 2, 11, 12, 12, 12, 12};
        for (int k = 0; k < told.length; k++) {
            Sea sea = new Sea(2, told[k], 1);
            Check.yes("1 y " + told[k] + ": its last cell", sea.depth(1, due[k] - 1, 3.0));
            Check.no("1 y " + told[k] + ": the next one", sea.depth(1, due[k], 3.0));
            Check.same("1 y " + told[k] + ": volume", sea.volume(), 3000);
            Check.yes("1 y " + told[k] + ": x is as told", sea.depth(1, 0, 3.0));
            Check.no("1 y " + told[k] + ": and no more", sea.depth(2, 0, 3.0));
        }
    }

    /** Promise 1: "layers below 1 are 1, above 4 they are 4". */
    private static void layersFromOneToFour() {
        int[] told = {Integer.MIN_VALUE, -1, 0, 1, 2, 3, 4, 5, 8, Integer.MAX_VALUE};
        int[] due = {1, 1, 1, 1, 2, 3, 4, 4, 4, 4};
        for (int k = 0; k < told.length; k++) {
            Sea sea = new Sea(2, 1, told[k]);
            sea.depth(0, 0, 10.0);
            sea.depth(1, 0, 10.0);
            sea.wind(0, 100.0, 0.0);
            sea.run(1, 60.0);
            double s = Lines.speed(0.0, 60.0, 0.0, 100.0);
            String name = "1 layers " + told[k];
            Check.same(name + ": first", sea.speed(0, 0, 0, 0), s * (1 + 0.25 * (due[k] - 1)));
            Check.same(name + ": last", sea.speed(0, 0, due[k] - 1, 0), s * (1 + 0.25 * (1 - due[k])));
            Check.same(name + ": the next one", sea.speed(0, 0, due[k], 0), 0.0);
            Check.same(name + ": warmth of the last", sea.warm(0, 0, due[k] - 1), 10.0 - 0.5 * (due[k] - 1));
            Check.same(name + ": warmth of the next one", sea.warm(0, 0, due[k]), NOWHERE);
            Check.same(name + ": salt of the next one", sea.salt(0, 0, due[k]), NOWHERE);
        }
    }

    /** Promise 1: "All land", at each size. */
    private static void allLandOfAnySize() {
        int[][] sizes = {{1, 1}, {12, 12}, {0, 13}, {12, 1}, {1, 12}};
        for (int[] size : sizes) {
            Sea sea = new Sea(size[0], size[1], 1);
            for (int k = 0; k < 144; k++) {
                Check.same("1 all land", sea.level(k % 12, k / 12), NOWHERE);
                Check.yes("1 land is dry", sea.dry(k % 12, k / 12));
            }
            Check.same("1 no volume", sea.volume(), 0);
            Check.yes("1 kept", sea.kept());
            Check.same("1 nothing came in", sea.through(0), 0);
        }
    }

    // ---- promise 2

    /** Promise 2: "False when there is none such". */
    private static void depthOfNoCell() {
        for (int none : Edges.beyond(0, Twins.X - 1)) {
            Twins.unchanged("2 i " + none, sea -> !sea.depth(none, 0, 5.0));
        }
        for (int none : Edges.beyond(0, Twins.Y - 1)) {
            Twins.unchanged("2 j " + none, sea -> !sea.depth(0, none, 5.0));
        }
    }

    /** Promise 2: "metres is not 0 .. 1000": what is within. */
    private static void depthsFromZeroToAThousand() {
        for (double metres : Edges.within(0.0, 1000.0)) {
            Sea sea = Sea.row(7.0);
            Check.yes("2 metres " + metres, sea.depth(0, 0, metres));
            Check.same("2 parts of " + metres, sea.volume(), (long) (metres * 1000));
            Check.same("2 level of " + metres, sea.level(0, 0),
                metres > 0.0 ? Lines.level((long) (metres * 1000), metres) : NOWHERE);
        }
        Sea sea = new Sea(1, 1, 1);
        sea.depth(0, 0, 1000.0);
        Check.same("2 parts of 1000 metres", sea.volume(), 1000000);
    }

    /** Promise 2: "False when .. metres is not 0 .. 1000": what is beyond. */
    private static void depthsBeyond() {
        for (double metres : Edges.beyond(0.0, 1000.0)) {
            Twins.unchanged("2 metres " + metres, sea -> !sea.depth(0, 0, metres));
            Twins.unchanged("2 metres " + metres + " of land", sea -> !sea.depth(2, 1, metres));
        }
    }

    /** Promise 2: "0.0: land, without volume". */
    private static void depthZeroIsLand() {
        double[] zeros = {0.0, -0.0};
        for (double zero : zeros) {
            Sea sea = Sea.row(10.0, 10.0);
            sea.wind(0, 100.0, 0.0);
            sea.run(1, 600.0);
            Check.yes("2 land", sea.depth(0, 0, zero));
            Check.same("2 no level", sea.level(0, 0), NOWHERE);
            Check.same("2 its volume is gone", sea.volume(), 10000 + 10000 / 8);
            Check.same("2 no warmth", sea.warm(0, 0, 0), NOWHERE);
            Check.same("2 no salt", sea.salt(0, 0, 0), NOWHERE);
            Check.same("2 no mud", sea.mud(0, 0), 0.0);
            Check.yes("2 dry", sea.dry(0, 0));
            Check.no("2 no river", sea.river(0, 0, 1.0));
            Check.same("2 no face", sea.speed(0, 0, 0, 0), 0.0);
            Check.yes("2 kept", sea.kept());
            sea.run(1, 600.0);
            Check.same("2 nothing flows any more", sea.volume(), 10000 + 10000 / 8);
            Check.yes("2 land is told again", sea.depth(0, 0, zero));
            Check.same("2 and nothing changes", sea.volume(), 10000 + 10000 / 8);
        }
    }

    /** Promise 2: "its volume becomes CUT ( metres * 1000 ), warmth 10.0, salt 35.0, mud 0.0". */
    private static void depthMakesAllNew() {
        Sea sea = Sea.row(10.0, 10.0);
        sea.river(0, 0, 50.0);
        sea.wind(0, 100.0, 0.0);
        sea.run(3, 600.0);
        Check.yes("2 all was other", sea.warm(0, 0, 0) > 10.0 && sea.salt(0, 0, 0) < 35.0
            && sea.mud(0, 0) > 0.0 && sea.level(0, 0) != 0.0);
        double warmth = sea.warm(1, 0, 0);
        double mud = sea.mud(1, 0);
        double level = sea.level(1, 0);
        Check.yes("2 told anew", sea.depth(0, 0, 10.0));
        Check.same("2 level", sea.level(0, 0), 0.0);
        Check.same("2 warmth", sea.warm(0, 0, 0), 10.0);
        Check.same("2 salt", sea.salt(0, 0, 0), 35.0);
        Check.same("2 mud", sea.mud(0, 0), 0.0);
        Check.same("2 warmth of the other", sea.warm(1, 0, 0), warmth);
        Check.same("2 mud of the other", sea.mud(1, 0), mud);
        Check.same("2 level of the other", sea.level(1, 0), level);
        Check.yes("2 kept", sea.kept());
    }

    /** Promise 2: "Speeds of its faces are 0": all four of them, and no other. */
    private static void depthStillsEveryFaceOfItsCell() {
        for (int told = 0; told < 9; told++) {
            Sea sea = Sea.even(3, 3, 10.0);
            sea.wind(0, 70.0, -80.0);
            sea.run(2, 60.0);
            double[] speeds = new double[18];
            for (int k = 0; k < 18; k++) {
                speeds[k] = sea.speed(k % 3, k / 3 % 3, 0, k / 9);
            }
            sea.depth(told % 3, told / 3, 10.0);
            for (int k = 0; k < 18; k++) {
                int i = k % 3;
                int j = k / 3 % 3;
                int next = k < 9 ? i + 1 + 3 * j : i + 3 * (j + 1);
                boolean its = told == i + 3 * j || told == next;
                Check.yes("2 a speed is there", speeds[k] != 0.0 || (k < 9 ? i : j) == 2);
                Check.same("2 depth of " + told + ": face " + k, sea.speed(i, j, 0, k / 9), its ? 0.0 : speeds[k]);
            }
        }
    }

    /** Promise 2: speeds of its faces are 0: what flows over its sides starts anew. */
    private static void depthStillsTheFacesAtSides() {
        for (int side = 0; side < 4; side++) {
            Sea sea = Sea.row(10.0);
            sea.border(side, 0, 0.0, 0.0);
            sea.wind(0, 100.0, 100.0);
            sea.run(3, 60.0);
            sea.depth(0, 0, 10.0);
            long before = sea.through(side);
            sea.run(1, 60.0);
            long q = Lines.asked(Lines.speed(0.0, 60.0, 0.0, 100.0), 60.0, 10000);
            Check.same("2 over side " + side, sea.through(side) - before, side % 2 == 0 ? q : -q);
        }
    }

    /** Promise 2: "and it has no beds": water told anew, and land. */
    private static void depthTakesTheBeds() {
        double[] depths = {10.0, 3.0, 0.0};
        for (double metres : depths) {
            Sea sea = Sea.row(10.0, 10.0);
            Check.same("2 a nest", sea.nest(0, 0, 3), 0);
            Check.same("2 another", sea.nest(1, 0, 3), 1);
            sea.depth(0, 0, metres);
            Check.no("2 it is empty", sea.equal(0));
            Check.yes("2 the other is not", sea.equal(1));
            sea.depth(0, 0, 10.0);
            Check.no("2 it stays empty", sea.equal(0));
            Check.same("2 it can be parted again", sea.nest(0, 0, 3), 2);
        }
    }

    // ---- promise 3

    /** Promise 3: "False when side is not 0 .. 3". */
    private static void bordersOfNoSide() {
        for (int side = 0; side <= 3; side++) {
            Check.yes("3 side " + side, new Sea(1, 1, 1).border(side, 0, 1.0, 0.0));
        }
        for (int none : Edges.beyond(0, 3)) {
            Twins.unchanged("3 side " + none, sea -> !sea.border(none, 0, 3.0, 0.0));
        }
    }

    /** Promise 3: "or wave not 0 .. 7". */
    private static void bordersOfNoWave() {
        for (int wave = 0; wave <= 7; wave++) {
            Sea sea = Sea.row(10.0);
            Check.yes("3 wave " + wave, sea.border(1, wave, 2.0, 0.0));
            sea.run(1, 1.0);
            Check.same("3 wave " + wave + " stands", sea.speed(0, 0, 0, 0), Lines.speed(0.0, 1.0, 0.0 - 2.0, 0.0));
        }
        for (int none : Edges.beyond(0, 7)) {
            for (int side = 0; side <= 3; side++) {
                int at = side;
                Twins.unchanged("3 wave " + none + " of side " + at, sea -> !sea.border(at, none, 3.0, 0.0));
            }
        }
    }

    /** Promise 3: "or size not 0 .. 20". */
    private static void sizesFromZeroToTwenty() {
        for (double size : Edges.within(0.0, 20.0)) {
            Sea sea = Sea.row(10.0);
            Check.yes("3 size " + size, sea.border(1, 0, size, 0.5));
            sea.run(1, 1.0);
            double outside = 0.0 + size * Lines.saw(0.5);
            Check.same("3 size " + size + " stands", sea.speed(0, 0, 0, 0), Lines.speed(0.0, 1.0, 0.0 - outside, 0.0));
        }
        for (double size : Edges.beyond(0.0, 20.0)) {
            Twins.unchanged("3 size " + size, sea -> !sea.border(0, 0, size, 0.3));
            Twins.unchanged("3 size " + size + " of a closed side", Twins::land, sea -> !sea.border(1, 0, size, 0.3));
        }
    }

    /** Promise 3: "or phase not 0 .. 1". */
    private static void phasesFromZeroToOne() {
        for (double phase : Edges.within(0.0, 1.0)) {
            Sea sea = Sea.row(10.0);
            Check.yes("3 phase " + phase, sea.border(1, 0, 2.0, phase));
            sea.run(1, 1.0);
            double outside = 0.0 + 2.0 * Lines.saw(0.0 / 3600 + phase);
            Check.same("3 phase " + phase + " stands", sea.speed(0, 0, 0, 0), Lines.speed(0.0, 1.0, 0.0 - outside, 0.0));
        }
        for (double phase : Edges.beyond(0.0, 1.0)) {
            Twins.unchanged("3 phase " + phase, sea -> !sea.border(0, 0, 3.0, phase));
            Twins.unchanged("3 phase " + phase + " of a closed side", Twins::land, sea -> !sea.border(1, 0, 3.0, phase));
        }
    }

    /** Promise 3: "A wave of a side": told again it is another; the others stay. */
    private static void aWaveToldAgainIsAnother() {
        Sea sea = Sea.row(10.0);
        sea.border(1, 0, 5.0, 0.0);
        sea.border(1, 1, 0.5, 0.0);
        Check.yes("3 told again", sea.border(1, 0, 1.0, 0.25));
        Check.yes("3 told again", sea.border(1, 0, 1.0, 0.0));
        sea.run(1, 1.0);
        Check.same("3 the last one", sea.speed(0, 0, 0, 0), Lines.speed(0.0, 1.0, 0.0 - 1.5, 0.0));
        Check.yes("3 told again as none", sea.border(1, 0, 0.0, 0.0));
        Check.yes("3 and the other", sea.border(1, 1, 0.0, 0.0));
        sea.depth(0, 0, 10.0);
        sea.wind(0, 100.0, 0.0);
        sea.run(1, 1.0);
        Check.same("3 the side stays open", sea.speed(0, 0, 0, 0), Lines.speed(0.0, 1.0, 0.0, 100.0));
    }

    // ---- promise 4

    /** Promise 4: "False when hour is not 0 .. 23". */
    private static void windsOfNoHour() {
        for (int hour = 0; hour <= 23; hour++) {
            Check.yes("4 hour " + hour, new Sea(1, 1, 1).wind(hour, 1.0, 1.0));
        }
        for (int none : Edges.beyond(0, 23)) {
            Twins.unchanged("4 hour " + none, sea -> !sea.wind(none, 77.0, -77.0));
        }
    }

    /** Promise 4: "or u or v is not -100 .. 100". */
    private static void windsFromMinusAHundredToAHundred() {
        for (double wind : Edges.within(-100.0, 100.0)) {
            Sea sea = Sea.even(2, 2, 10.0);
            Check.yes("4 u " + wind, sea.wind(0, wind, 3.0));
            sea.run(1, 60.0);
            Check.same("4 u " + wind + " blows", sea.speed(0, 0, 0, 0), Lines.speed(0.0, 60.0, 0.0, wind));
            Sea other = Sea.even(2, 2, 10.0);
            Check.yes("4 v " + wind, other.wind(0, 3.0, wind));
            other.run(1, 60.0);
            Check.same("4 v " + wind + " blows", other.speed(0, 0, 0, 1), Lines.speed(0.0, 60.0, 0.0, wind));
        }
        for (double wind : Edges.beyond(-100.0, 100.0)) {
            Twins.unchanged("4 u " + wind, sea -> !sea.wind(0, wind, 77.0));
            Twins.unchanged("4 v " + wind, sea -> !sea.wind(0, 77.0, wind));
            Twins.unchanged("4 u, v " + wind, sea -> !sea.wind(23, wind, wind));
        }
    }

    /** Promise 4: "(0 at first)", in every hour. */
    private static void windsAreZeroAtFirst() {
        Sea sea = Sea.even(2, 2, 10.0);
        for (int hour = 0; hour < 25; hour++) {
            sea.run(6, 600.0);
            Check.same("4 no wind in hour " + hour, sea.speed(0, 0, 0, 0), 0.0);
            Check.same("4 nor along axis 1", sea.speed(0, 0, 0, 1), 0.0);
        }
    }

    /** Promise 4: "The wind of an hour of the day": its own hour, not the ones before and behind. */
    private static void windsOfEachHour() {
        for (int hour = 0; hour < 24; hour++) {
            Sea sea = new Sea(2, 2, 1);
            sea.wind(hour, 60.0, -30.0);
            for (int now = 0; now < 26; now++) {
                sea.depth(0, 0, 10.0);
                sea.depth(1, 0, 10.0);
                sea.depth(0, 1, 10.0);
                sea.run(1, 600.0);
                double times = now % 24 == hour ? 1.0 : 0.0;
                Check.same("4 wind of " + hour + " at " + now, sea.speed(0, 0, 0, 0),
                    Lines.speed(0.0, 600.0, 0.0, times * 60.0));
                Check.same("4 its v", sea.speed(0, 0, 0, 1), Lines.speed(0.0, 600.0, 0.0, times * -30.0));
                sea.run(5, 600.0);
            }
        }
    }

    // ---- promise 5

    /** Promise 5: "False when there is no such cell". */
    private static void riversOfNoCell() {
        for (int none : Edges.beyond(0, Twins.X - 1)) {
            Twins.unchanged("5 i " + none, sea -> !sea.river(none, 0, 5.0));
        }
        for (int none : Edges.beyond(0, Twins.Y - 1)) {
            Twins.unchanged("5 j " + none, sea -> !sea.river(0, none, 5.0));
        }
    }

    /** Promise 5: "or it is land": at first, and when it has become land; then nothing changes. */
    private static void riversOfLand() {
        Twins.unchanged("5 land at first", Twins::land, sea -> !sea.river(2, 1, 900.0));
        Twins.unchanged("5 new land", Twins::moving, sea -> !sea.river(2, 1, 900.0));
        Twins.unchanged("5 no river of new land", Twins::moving, sea -> !sea.river(2, 1, 0.0));
        Sea sea = Sea.row(Double.MIN_VALUE);
        Check.yes("5 water, if next to none", sea.river(0, 0, 1.0));
    }

    /** Promise 5: "or rate is not 0 .. 1000". */
    private static void ratesFromZeroToAThousand() {
        for (double rate : Edges.within(0.0, 1000.0)) {
            Sea sea = Sea.row(10.0);
            Check.yes("5 rate " + rate, sea.river(0, 0, rate));
            sea.run(1, 600.0);
            Check.same("5 parts of rate " + rate, sea.volume(), 10000 + (long) (rate * 600.0));
        }
        for (double rate : Edges.beyond(0.0, 1000.0)) {
            Twins.unchanged("5 rate " + rate, sea -> !sea.river(0, 0, rate));
            Twins.unchanged("5 rate " + rate + " where a river is", sea -> !sea.river(1, 0, rate));
        }
    }

    /** Promise 5: "(0: none)". */
    private static void aRiverOfZeroIsNone() {
        double[] zeros = {0.0, -0.0};
        for (double zero : zeros) {
            Sea sea = Sea.row(10.0, 0.0, 10.0);
            sea.river(0, 0, 5.0);
            sea.river(2, 0, 7.0);
            sea.run(1, 10.0);
            Check.yes("5 none", sea.river(0, 0, zero));
            sea.run(1, 10.0);
            Check.same("5 nothing more", sea.level(0, 0), Lines.level(10050, 10.0));
            Check.same("5 the other goes on", sea.level(2, 0), Lines.level(10140, 10.0));
        }
    }

    /** Promise 5: "(On land it brings nothing; depth() leaves it.)" */
    private static void landTakesNoRiverButKeepsIt() {
        Sea sea = Sea.row(10.0);
        sea.river(0, 0, 3.0);
        Check.yes("5 told anew", sea.depth(0, 0, 8.0));
        sea.run(1, 10.0);
        Check.same("5 depth leaves it", sea.volume(), 8030);
        sea.depth(0, 0, 0.0);
        sea.run(2, 10.0);
        Check.same("5 nothing on land", sea.volume(), 0);
        Check.yes("5 nothing is missed", sea.kept());
        sea.depth(0, 0, 1.0);
        Check.same("5 nothing was put by", sea.volume(), 1000);
        sea.run(1, 10.0);
        Check.same("5 it was left all the time", sea.volume(), 1030);
        Check.yes("5 kept", sea.kept());
    }

    // ---- promise 6

    /** Promise 6: "-1, doing nothing, when steps is not 0 .. 200". */
    private static void stepsFromZeroToTwoHundred() {
        int[] within = {0, 1, 199, 200};
        for (int steps : within) {
            Sea sea = Sea.row(10.0);
            sea.river(0, 0, 1.0);
            Check.same("6 steps " + steps, sea.run(steps, 2.0), steps);
            Check.same("6 so many: " + steps, sea.volume(), 10000 + 2 * steps);
        }
        for (int steps : Edges.beyond(0, 200)) {
            Twins.unchanged("6 steps " + steps, sea -> sea.run(steps, 60.0) == -1);
        }
    }

    /** Promise 6: "or h not 1 .. 600". */
    private static void secondsFromOneToSixHundred() {
        for (double h : Edges.within(1.0, 600.0)) {
            Sea sea = Sea.row(10.0, 10.0);
            sea.wind(0, 100.0, 0.0);
            Check.same("6 h " + h, sea.run(1, h), 1);
            Check.same("6 a step of " + h, sea.speed(0, 0, 0, 0), Lines.speed(0.0, h, 0.0, 100.0));
        }
        double[] beyond = {0.0, -1.0, 0.5};
        for (double h : beyond) {
            Twins.unchanged("6 h " + h, sea -> sea.run(1, h) == -1);
        }
        for (double h : Edges.beyond(1.0, 600.0)) {
            Twins.unchanged("6 h " + h, sea -> sea.run(1, h) == -1);
            Twins.unchanged("6 no steps of " + h, sea -> sea.run(0, h) == -1);
            Twins.unchanged("6 many steps of " + h, sea -> sea.run(200, h) == -1);
        }
    }

    /** Promise 6: "steps .. 0 .. 200": none at all are done, and told. */
    private static void noStepsDoNothing() {
        Twins.unchanged("6 no steps", sea -> sea.run(0, 600.0) == 0);
        Twins.unchanged("6 no steps of a second", sea -> sea.run(0, 1.0) == 0);
    }
}
