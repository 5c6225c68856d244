/** Edges of promises 17, 18, 19 and 24: fit, gauge, tide and differs. */
public final class TideEdgeTests {
    private static final int NONE = CellCurrents.NONE;

    public static void main(String[] args) {
        fitsOfNoWave();
        fitOfNoGauge();
        fitOfOneGauge();
        pivotsUpToAll();
        pivotsAboveTheirLeast();
        numbersWithoutPivotAreZero();
        rowsBelowAPivotAlone();
        numbersComeFromTheLastColumnOn();
        aRefusedFitLeavesTheLatest();
        gaugesOfNoCell();
        gaugesOfLand();
        hoursOfGaugesFromZeroToAThousand();
        levelsOfGaugesFromMinusAHundredToAHundred();
        fortyGaugesAtMost();
        refusedGaugesDoNotCount();
        noTideBeforeAFit();
        hoursOfTidesFromZeroToAThousand();
        tideOfTheLatestFit();
        sawsAtTheTurnsOfATide();
        differsOfNoCell();
        differsOfLand();
        differsWithoutAGauge();
        differsOfTheGaugeToldLast();
        differsFromTheLevelNow();
        Check.end();
    }

    private static Sea told(double... hoursAndLevels) {
        Sea sea = new Sea(1, 1, 1);
        for (int k = 0; k + 1 < hoursAndLevels.length; k += 2) {
            sea.gauge(0, 0, hoursAndLevels[k], hoursAndLevels[k + 1]);
        }
        return sea;
    }

    // ---- promise 17

    /** Promise 17: "NONE when waves is not 0 .. 2". */
    private static void fitsOfNoWave() {
        for (int waves = 0; waves <= 2; waves++) {
            Check.same("17 waves " + waves, told(0.1, 1.0, 0.2, 2.0, 0.4, 1.0, 0.8, 1.0, 1.3, 2.0, 1.9, 3.0).fit(waves),
                1 + 2 * waves);
        }
        for (int none : Edges.beyond(0, 2)) {
            Twins.unchanged("17 waves " + none, sea -> sea.fit(none) == NONE);
        }
    }

    /** Promise 17: "all that gauges told": nothing: no pivots, all numbers 0. */
    private static void fitOfNoGauge() {
        for (int waves = 0; waves <= 2; waves++) {
            Sea sea = new Sea(1, 1, 1);
            Check.same("17 no pivot of " + waves, sea.fit(waves), 0);
            Check.same("19 numbers are 0", sea.tide(0.3), 0.0);
        }
    }

    /** Promise 17: one level: one pivot, whatever the waves, and at any hour of it. */
    private static void fitOfOneGauge() {
        double[] hours = {0.0, 0.125, 0.25, 0.5, 1.0, 999.3, 1000.0};
        for (double hour : hours) {
            for (int waves = 0; waves <= 2; waves++) {
                Sea sea = told(hour, -7.5);
                Check.same("17 one pivot at " + hour, sea.fit(waves), 1);
                Check.same("19 everywhere", sea.tide(0.3), -7.5);
                Check.same("19 at its hour", sea.tide(hour), -7.5);
            }
        }
    }

    /** Promise 17: "How many pivots there are": from 0 to all of them, by and by. */
    private static void pivotsUpToAll() {
        double[] hours = {0.1, 0.3, 0.65, 1.2, 1.85};
        for (int count = 0; count <= 5; count++) {
            for (int waves = 0; waves <= 2; waves++) {
                Sea sea = new Sea(1, 1, 1);
                for (int k = 0; k < count; k++) {
                    sea.gauge(0, 0, hours[k], 1.0 + k * k);
                }
                Check.same("17 pivots of " + count + " levels, waves " + waves, sea.fit(waves),
                    Math.min(count, 1 + 2 * waves));
            }
        }
    }

    /** Promise 17: "if the size of A at it (its own row) is above 1.0e-9": below it, at it, above. */
    private static void pivotsAboveTheirLeast() {
        // Near these hours the first saw is next to 0, the second one is not: it has its pivot.
        double other = 0.750000093207;
        double least = 0.2500096355183925;
        Check.yes("17 A below", secondPivot(0.25, other, Math.nextDown(least)) < 1.0e-9);
        Check.same("17 A at its least", secondPivot(0.25, other, least), 1.0e-9);
        Check.yes("17 A above", secondPivot(0.25, other, Math.nextUp(least)) > 1.0e-9);
        double[] hours = {Math.nextDown(least), least, Math.nextUp(least)};
        int[] pivots = {2, 2, 3};
        for (int k = 0; k < 3; k++) {
            Sea sea = told(0.25, 1.0, other, 2.0, hours[k], 4.0);
            Check.same("17 pivots at " + hours[k], sea.fit(1), pivots[k]);
            // Without a0 the tide stays among the levels; such a small pivot makes a great one.
            Check.same("19 a0 at " + hours[k], sea.tide(0.3) > 100.0 ? 1 : 0, k == 2 ? 1 : 0);
        }
    }

    /** What A has in row and column 1 below the first pivot, for levels at these hours. */
    private static double secondPivot(double... hours) {
        double[] a = {0.0, 0.0, 0.0};
        for (double hour : hours) {
            double g = Lines.saw(hour * 3600 / 3600);
            a[0] = a[0] + 1.0;
            a[1] = a[1] + 1.0 * g;
            a[2] = a[2] + g * g;
        }
        return a[2] - a[1] / a[0] * a[1];
    }

    /** Promise 17: "its number is 0 without pivot": the others share what is there. */
    private static void numbersWithoutPivotAreZero() {
        // Whole and half hours: the second saw of the first wave is 0 at all of them.
        Sea sea = told(0.0, 6.0, 0.5, 2.0, 1.0, 6.0, 1.5, 2.0);
        Check.same("17 two pivots of three", sea.fit(1), 2);
        Check.same("19 c + a0", sea.tide(0.0), 6.0);
        Check.same("19 c - a0", sea.tide(0.5), 2.0);
        Check.same("19 b0 is 0", sea.tide(0.25), 4.0);
        Check.same("19 b0 is 0", sea.tide(0.75), 4.0);
        // Whole hours: the first saw of the first wave is 1 at all of them, as 1.0 is: no pivot.
        Sea whole = told(0.0, 6.0, 1.0, 2.0, 2.0, 6.0, 3.0, 2.0);
        Check.same("17 columns 0 and 3", whole.fit(2), 2);
        Check.same("19 c + a1", whole.tide(0.0), 6.0);
        Check.same("19 c - a1", whole.tide(1.0), 2.0);
        Check.same("19 a0 is 0", whole.tide(0.5), 4.0);
    }

    /** Promise 17: "each row below it becomes less": a column without pivot leaves all rows. */
    private static void rowsBelowAPivotAlone() {
        // Column 1 has no pivot (whole hours), column 2 neither, columns 3 and 4 have theirs.
        double[] hours = {0.0, 1.0, 2.0, 3.0, 4.0};
        double[] levels = {1.0, -2.0, 4.0, 0.5, 3.0};
        Sea sea = new Sea(1, 1, 1);
        double[][] a = new double[5][5];
        double[] b = new double[5];
        for (int g = 0; g < 5; g++) {
            sea.gauge(0, 0, hours[g], levels[g]);
            double[] f = saws(hours[g]);
            for (int r = 0; r < 5; r++) {
                b[r] = b[r] + f[r] * levels[g];
                for (int c = 0; c < 5; c++) {
                    a[r][c] = a[r][c] + f[r] * f[c];
                }
            }
        }
        double by = a[3][0] / a[0][0];
        double a33 = a[3][3] - by * a[0][3];
        double b3 = b[3] - by * b[0];
        double a1 = b3 / a33;
        double c0 = (b[0] - a[0][3] * a1) / a[0][0];
        Check.same("17 columns 0 and 3 alone", sea.fit(2), 2);
        Check.same("19 at an even hour", sea.tide(6.0), c0 + a1);
        Check.same("19 at an odd hour", sea.tide(7.0), c0 - a1);
        Check.same("19 at half of an hour", sea.tide(0.5), c0 + a1 * 0.0);
    }

    /** Promise 17: "from the last column to the first one: .. one by one, the next one first". */
    private static void numbersComeFromTheLastColumnOn() {
        int others = 0;
        for (int n = 0; n < 20; n++) {
            int waves = n % 3;
            Sea sea = new Sea(1, 1, 1);
            double[] hours = new double[8];
            double[] levels = new double[8];
            for (int g = 0; g < 8; g++) {
                hours[g] = 0.13 * n + 1.37 * g + 0.11 * g * g;
                levels[g] = 3.0 - 0.7 * n + (g * g * 7 + n) % 11;
                sea.gauge(0, 0, hours[g], levels[g]);
            }
            double[][] a = cleared(1 + 2 * waves, hours, levels);
            Check.same("17 all columns of " + n, sea.fit(waves), 1 + 2 * waves);
            double[] numbers = numbers(a, true);
            double[] other = numbers(a, false);
            for (int k = 0; k < 9; k++) {
                double hour = 0.3 + 0.41 * k;
                Check.same("19 sum of fit " + n + " at " + hour, sea.tide(hour), sum(numbers, hour));
                others += sum(numbers, hour) != sum(other, hour) ? 1 : 0;
            }
        }
        Check.yes("17 another order would show", others > 5);
    }

    private static double[] saws(double hour) {
        double t = hour * 3600;
        return new double[] {1.0, Lines.saw(t / 3600), Lines.saw(t / 3600 + 0.25), Lines.saw(t / 7200),
            Lines.saw(t / 7200 + 0.25)};
    }

    /** A with B behind it, of so many columns, after each of them was a pivot. */
    private static double[][] cleared(int n, double[] hours, double[] levels) {
        double[][] a = new double[n][n + 1];
        for (int g = 0; g < hours.length; g++) {
            double[] f = saws(hours[g]);
            for (int r = 0; r < n; r++) {
                for (int c = 0; c < n; c++) {
                    a[r][c] = a[r][c] + f[r] * f[c];
                }
                a[r][n] = a[r][n] + f[r] * levels[g];
            }
        }
        for (int c = 0; c < n; c++) {
            for (int r = c + 1; r < n; r++) {
                double times = a[r][c] / a[c][c];
                for (int k = c; k <= n; k++) {
                    a[r][k] = a[r][k] - times * a[c][k];
                }
            }
        }
        return a;
    }

    private static double[] numbers(double[][] a, boolean nextFirst) {
        int n = a.length;
        double[] all = new double[n];
        for (int c = n - 1; c >= 0; c--) {
            double rest = a[c][n];
            for (int k = c + 1; k < n; k++) {
                int behind = nextFirst ? k : n + c - k;
                rest = rest - a[c][behind] * all[behind];
            }
            all[c] = rest / a[c][c];
        }
        return all;
    }

    private static double sum(double[] numbers, double hour) {
        double[] f = saws(hour);
        double sum = numbers[0];
        for (int k = 1; k < numbers.length; k++) {
            sum = sum + numbers[k] * f[k];
        }
        return sum;
    }

    /** Promise 17: NONE; Terms: "What is refused changes nothing": the latest fit stays. */
    private static void aRefusedFitLeavesTheLatest() {
        Sea sea = told(0.0, 6.0, 0.5, 2.0);
        sea.fit(1);
        sea.gauge(0, 0, 0.0, -50.0);
        for (int none : Edges.beyond(0, 2)) {
            Check.same("17 waves " + none, sea.fit(none), NONE);
            Check.same("19 the latest fit", sea.tide(0.0), 6.0);
            Check.same("19 and its wave", sea.tide(0.5), 2.0);
        }
    }

    // ---- promise 18

    /** Promise 18: "False when there is no such cell". */
    private static void gaugesOfNoCell() {
        for (int none : Edges.beyond(0, Twins.X - 1)) {
            Twins.unchanged("18 i " + none, sea -> !sea.gauge(none, 0, 1.0, 50.0));
        }
        for (int none : Edges.beyond(0, Twins.Y - 1)) {
            Twins.unchanged("18 j " + none, sea -> !sea.gauge(0, none, 1.0, 50.0));
        }
    }

    /** Promise 18: "no such cell": land is one. */
    private static void gaugesOfLand() {
        Sea sea = new Sea(2, 1, 1);
        Check.yes("18 land at first", sea.gauge(0, 0, 1.0, 3.0));
        sea.depth(1, 0, 10.0);
        sea.depth(1, 0, 0.0);
        Check.yes("18 new land", sea.gauge(1, 0, 1.0, 5.0));
        Check.same("17 both count", sea.fit(0), 1);
        Check.same("19 both count", sea.tide(0.0), 4.0);
        Check.same("24 land differs by nothing", sea.differs(0, 0), 0.0);
        sea.depth(0, 0, 10.0);
        Check.same("24 water does", sea.differs(0, 0), 3.0);
    }

    /** Promise 18: "or hour2 is not 0 .. 1000". */
    private static void hoursOfGaugesFromZeroToAThousand() {
        for (double hour : Edges.within(0.0, 1000.0)) {
            Sea sea = told();
            Check.yes("18 hour " + hour, sea.gauge(0, 0, hour, 2.5));
            Check.same("17 it is told", sea.fit(0), 1);
            Check.same("19 it counts", sea.tide(0.0), 2.5);
        }
        for (double hour : Edges.beyond(0.0, 1000.0)) {
            Twins.unchanged("18 hour " + hour, sea -> !sea.gauge(0, 0, hour, 50.0));
        }
    }

    /** Promise 18: "or v2 not -100 .. 100". */
    private static void levelsOfGaugesFromMinusAHundredToAHundred() {
        double[] zeros = {0.0, -0.0};
        for (double level : zeros) {
            Check.yes("18 level " + level, told().gauge(0, 0, 1.0, level));
        }
        for (double level : Edges.within(-100.0, 100.0)) {
            Sea sea = Sea.row(10.0);
            Check.yes("18 level " + level, sea.gauge(0, 0, 1.0, level));
            sea.fit(0);
            Check.same("19 it counts", sea.tide(0.0), level);
            Check.same("24 it differs", sea.differs(0, 0), level);
        }
        for (double level : Edges.beyond(-100.0, 100.0)) {
            Twins.unchanged("18 level " + level, sea -> !sea.gauge(0, 0, 1.0, level));
        }
    }

    /** Promise 18: "or there are 40": the fortieth, and one more, of the same cell or another. */
    private static void fortyGaugesAtMost() {
        Sea sea = Sea.even(3, 1, 10.0);
        double sum = 0.0;
        for (int k = 0; k < 40; k++) {
            Check.yes("18 gauge " + k, sea.gauge(k % 2, 0, k, k));
            sum += k;
        }
        Check.no("18 the next one", sea.gauge(0, 0, 1.0, 77.0));
        Check.no("18 of the other cell", sea.gauge(1, 0, 1.0, 77.0));
        Check.no("18 of a cell without any", sea.gauge(2, 0, 1.0, 77.0));
        sea.fit(0);
        Check.same("19 forty of them", sea.tide(0.0), sum / 40);
        Check.same("24 the last of the one", sea.differs(0, 0), 38.0);
        Check.same("24 the last of the other", sea.differs(1, 0), 39.0);
        Check.same("24 none of the third", sea.differs(2, 0), 0.0);
        for (int k = 0; k < 6; k++) {
            int at = k;
            Twins.unchanged("18 there are forty", Twins::full, full -> !full.gauge(at % 3, at / 3, 1.0, 77.0));
        }
    }

    /** Promise 18: what is refused is none of the forty. */
    private static void refusedGaugesDoNotCount() {
        Sea sea = new Sea(1, 1, 1);
        for (int k = 0; k < 41; k++) {
            Check.no("18 no cell", sea.gauge(1, 0, 1.0, 1.0));
            Check.no("18 no hour", sea.gauge(0, 0, 1000.5, 1.0));
            Check.no("18 no level", sea.gauge(0, 0, 1.0, 100.5));
        }
        for (int k = 0; k < 40; k++) {
            Check.yes("18 gauge " + k, sea.gauge(0, 0, 1.0, 1.0));
        }
        Check.no("18 the next one", sea.gauge(0, 0, 1.0, 1.0));
    }

    // ---- promise 19

    /** Promise 19: "0.0 before any": also when levels were told, and a fit was refused. */
    private static void noTideBeforeAFit() {
        Sea sea = told(0.0, 5.0, 1.0, 7.0);
        Check.same("19 before any", sea.tide(0.0), 0.0);
        Check.same("17 refused", sea.fit(3), NONE);
        Check.same("19 still before any", sea.tide(0.0), 0.0);
        sea.fit(0);
        Check.same("19 behind it", sea.tide(0.0), 6.0);
    }

    /** Promise 19: "or when hour3 is not 0 .. 1000". */
    private static void hoursOfTidesFromZeroToAThousand() {
        Sea sea = told(0.0, 5.0);
        sea.fit(2);
        for (double hour : Edges.within(0.0, 1000.0)) {
            Check.same("19 hour " + hour, sea.tide(hour), 5.0);
        }
        for (double hour : Edges.beyond(0.0, 1000.0)) {
            Check.same("19 hour " + hour, sea.tide(hour), 0.0);
            Twins.unchanged("19 hour " + hour, any -> any.tide(hour) == 0.0);
        }
    }

    /** Promise 19: "The tide of the latest fit()": of more waves, of fewer, of none told anew. */
    private static void tideOfTheLatestFit() {
        Sea sea = told(0.0, 6.0, 0.5, 2.0);
        sea.fit(0);
        Check.same("19 of no wave", sea.tide(0.0), 4.0);
        sea.fit(1);
        Check.same("19 of one", sea.tide(0.0), 6.0);
        sea.fit(2);
        Check.same("19 of two", sea.tide(0.0), 6.0);
        sea.fit(0);
        Check.same("19 of none again", sea.tide(0.0), 4.0);
        sea.gauge(0, 0, 0.0, 100.0);
        Check.same("19 what was told since does not count", sea.tide(0.0), 4.0);
        sea.fit(0);
        Check.same("19 until it is fitted", sea.tide(0.0), 36.0);
    }

    /** Promise 19: SAW at the turns of an hour and of two: whole, half, just below and above. */
    private static void sawsAtTheTurnsOfATide() {
        Sea sea = told(0.0, 6.0, 0.5, 2.0);
        sea.fit(1);
        double[] hours = {0.0, 0.25, Math.nextDown(0.5), 0.5, Math.nextUp(0.5), 0.75, Math.nextDown(1.0),
            1.0, Math.nextUp(1.0), 1.5, 23.0, 24.0, 999.5, 1000.0};
        for (double hour : hours) {
            Check.same("19 hour " + hour, sea.tide(hour), 4.0 + 2.0 * Lines.saw(hour * 3600 / 3600));
        }
        Sea slow = told(0.0, 6.0, 1.0, 2.0);
        slow.fit(2);
        for (double hour : hours) {
            Check.same("19 two hours, " + hour, slow.tide(hour), 4.0 + 2.0 * Lines.saw(hour * 3600 / 7200));
        }
    }

    // ---- promise 24

    /** Promise 24: "0.0 when there is none such". */
    private static void differsOfNoCell() {
        Sea sea = Sea.even(3, 2, 10.0);
        for (int k = 0; k < 6; k++) {
            sea.gauge(k % 3, k / 3, 1.0, 5.0);
            Check.same("24 cell " + k, sea.differs(k % 3, k / 3), 5.0);
        }
        for (int none : Edges.beyond(0, 2)) {
            Check.same("24 i " + none, sea.differs(none, 0), 0.0);
        }
        for (int none : Edges.beyond(0, 1)) {
            Check.same("24 j " + none, sea.differs(0, none), 0.0);
        }
    }

    /** Promise 24: "or it is land": told before it became land, and when it is water again. */
    private static void differsOfLand() {
        Sea sea = Sea.row(10.0, 0.0);
        sea.gauge(0, 0, 1.0, 5.0);
        sea.gauge(1, 0, 1.0, 6.0);
        Check.same("24 water", sea.differs(0, 0), 5.0);
        Check.same("24 land at first", sea.differs(1, 0), 0.0);
        sea.depth(0, 0, 0.0);
        sea.depth(1, 0, 10.0);
        Check.same("24 new land", sea.differs(0, 0), 0.0);
        Check.same("24 new water", sea.differs(1, 0), 6.0);
        sea.depth(0, 0, 4.0);
        Check.same("24 water again", sea.differs(0, 0), 5.0);
    }

    /** Promise 24: "or none did": also of a level that is not 0.0, and beside one that was told. */
    private static void differsWithoutAGauge() {
        Sea sea = Sea.row(3.0005, 3.0005);
        sea.gauge(1, 0, 1.0, 5.0);
        Check.yes("24 its level", sea.level(0, 0) != 0.0);
        Check.same("24 none did", sea.differs(0, 0), 0.0);
        Check.no("18 refused", sea.gauge(0, 0, 1000.5, 7.0));
        Check.same("24 a refused one did not", sea.differs(0, 0), 0.0);
        sea.gauge(0, 0, 1.0, 0.0);
        Check.same("24 a level of 0.0 is one", sea.differs(0, 0), 0.0 - sea.level(0, 0));
    }

    /** Promise 24: "What a gauge told last at a cell": by the order of telling, not by its hour. */
    private static void differsOfTheGaugeToldLast() {
        Sea sea = Sea.row(10.0, 10.0);
        double[] hours = {5.0, 1000.0, 0.0, 7.0};
        for (int k = 0; k < 4; k++) {
            sea.gauge(0, 0, hours[k], 1.5 - k);
            sea.gauge(1, 0, 999.0, 50.0);
            Check.same("24 told last", sea.differs(0, 0), 1.5 - k);
        }
        Check.no("18 refused", sea.gauge(0, 0, -1.0, 9.0));
        Check.same("24 what is refused was not told", sea.differs(0, 0), -1.5);
    }

    /** Promise 24: "less its level now": with its sign, and as it moves. */
    private static void differsFromTheLevelNow() {
        Sea sea = Sea.row(10.0005);
        sea.gauge(0, 0, 1.0, -100.0);
        Check.same("24 at first", sea.differs(0, 0), -100.0 - Lines.level(10000, 10.0005));
        sea.river(0, 0, 2.0);
        for (int n = 1; n <= 5; n++) {
            sea.run(1, 50.0);
            Check.same("24 after step " + n, sea.differs(0, 0), -100.0 - Lines.level(10000 + 100 * n, 10.0005));
        }
    }
}
