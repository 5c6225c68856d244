/** Promises 17, 18, 19 and 24: gauges, the tide that is fitted to them, and what they differ by. */
public final class TideTests {
    private static final int NONE = CellCurrents.NONE;
    private static final int[] NO_PLACES = {-1, 9, Integer.MIN_VALUE, Integer.MAX_VALUE};

    public static void main(String[] args) {
        nothingBeforeAFit();
        fitOfNothing();
        meanOfLevels();
        oneWave();
        twoWaves();
        columnsWithoutPivot();
        pivotsAreAboveTheirLeast();
        fitRefuses();
        tideIsOfTheLatestFit();
        tideRefuses();
        gaugeRefuses();
        fortyGauges();
        differsFromTheLevelNow();
        differsOfNone();
        eliminationByHand();
        Check.end();
    }

    private static boolean near(double got, double due) {
        return Math.abs(got - due) < 1.0e-9;
    }

    private static void nothingBeforeAFit() {
        Sea sea = new Sea(1, 1, 1);
        Check.same("19 nothing", sea.tide(1.0), 0.0);
        sea.gauge(0, 0, 1.0, 3.0);
        Check.same("19 told, not fitted", sea.tide(1.0), 0.0);
    }

    private static void fitOfNothing() {
        for (int waves = 0; waves <= 2; waves++) {
            Sea sea = new Sea(1, 1, 1);
            Check.same("17 no pivots", sea.fit(waves), 0);
            Check.same("19 numbers of 0", sea.tide(0.5), 0.0);
        }
    }

    private static void meanOfLevels() {
        Sea sea = new Sea(2, 2, 1);
        double[] levels = {0.1, 0.7, -2.3, 100.0, -100.0};
        double sum = 0.0;
        for (int k = 0; k < levels.length; k++) {
            sea.gauge(k % 2, k / 2 % 2, 3.3 * k, levels[k]);
            sum = sum + 1.0 * levels[k];
        }
        Check.same("17 one pivot", sea.fit(0), 1);
        Check.same("19 mean", sea.tide(7.5), sum / 5.0);
    }

    private static void oneWave() {
        Sea sea = new Sea(1, 1, 1);
        for (int k = 0; k < 12; k++) {
            double t = 0.15 * k * 3600;
            sea.gauge(0, 0, 0.15 * k, 0.5 + 2.0 * Lines.saw(t / 3600) - 1.5 * Lines.saw(t / 3600 + 0.25));
        }
        Check.same("17 three pivots", sea.fit(1), 3);
        for (int k = 0; k < 30; k++) {
            double t = 0.27 * k * 3600;
            double due = 0.5 + 2.0 * Lines.saw(t / 3600) - 1.5 * Lines.saw(t / 3600 + 0.25);
            Check.yes("19 hour " + 0.27 * k, near(sea.tide(0.27 * k), due));
        }
    }

    private static void twoWaves() {
        Sea sea = new Sea(1, 1, 1);
        for (int k = 0; k < 40; k++) {
            sea.gauge(0, 0, 0.13 * k, twoWavesAt(0.13 * k));
        }
        Check.same("17 five pivots", sea.fit(2), 5);
        for (int k = 0; k < 30; k++) {
            Check.yes("19 hour " + 33.37 * k, near(sea.tide(33.37 * k), twoWavesAt(33.37 * k)));
        }
    }

    private static double twoWavesAt(double hour) {
        double t = hour * 3600;
        return -1.0 + 2.0 * Lines.saw(t / 3600) + 0.25 * Lines.saw(t / 3600 + 0.25) - 3.0 * Lines.saw(t / 7200)
            + 0.75 * Lines.saw(t / 7200 + 0.25);
    }

    private static void columnsWithoutPivot() {
        Sea sea = new Sea(1, 1, 1);
        sea.gauge(0, 0, 2.0, 4.0);
        Check.same("17 one hour alone", sea.fit(2), 1);
        Check.same("19 the others are 0", sea.tide(2.5), 4.0);
        sea.gauge(0, 0, 2.5, 2.0);
        // At both hours the second saw is 0, the first one 1 or -1.
        Check.same("17 two hours", sea.fit(1), 2);
        Check.same("19 at the first", sea.tide(2.0), 4.0);
        Check.same("19 at the second", sea.tide(2.5), 2.0);
        Check.same("19 where the second saw is not", sea.tide(2.25), 3.0);
    }

    /** Two levels so near each other in time that the second pivot is 8 times the square of it. */
    private static void pivotsAreAboveTheirLeast() {
        double[] apart = {1.0e-5, 1.3e-5};
        for (int k = 0; k < 2; k++) {
            Sea sea = new Sea(1, 1, 1);
            sea.gauge(0, 0, 0.0, 1.0);
            sea.gauge(0, 0, apart[k], 2.0);
            Check.same("17 apart by " + apart[k], sea.fit(1), 1 + k);
        }
    }

    private static void fitRefuses() {
        Sea sea = new Sea(1, 1, 1);
        sea.gauge(0, 0, 1.0, 3.0);
        sea.fit(0);
        sea.gauge(0, 0, 1.0, 5.0);
        int[] waves = {-1, 3, Integer.MIN_VALUE, Integer.MAX_VALUE};
        for (int n : waves) {
            Check.same("17 waves " + n, sea.fit(n), NONE);
        }
        Check.same("17 changes nothing", sea.tide(1.0), 3.0);
    }

    private static void tideIsOfTheLatestFit() {
        Sea sea = new Sea(1, 1, 1);
        sea.gauge(0, 0, 0.0, 3.0);
        sea.gauge(0, 0, 0.5, 1.0);
        sea.fit(1);
        Check.same("19 of one wave", sea.tide(0.0), 3.0);
        sea.gauge(0, 0, 0.0, 8.0);
        Check.same("19 not of what was told since", sea.tide(0.0), 3.0);
        sea.fit(0);
        Check.same("19 of no wave", sea.tide(0.0), 4.0);
        Check.same("19 at any hour", sea.tide(0.5), 4.0);
    }

    private static void tideRefuses() {
        Sea sea = new Sea(1, 1, 1);
        sea.gauge(0, 0, 1.0, 3.0);
        sea.fit(0);
        Check.same("19 hour 0", sea.tide(0.0), 3.0);
        Check.same("19 hour -0", sea.tide(-0.0), 3.0);
        Check.same("19 hour 1000", sea.tide(1000.0), 3.0);
        double[] hours = {-0.001, 1000.001, Double.NaN, Double.POSITIVE_INFINITY,
            Double.NEGATIVE_INFINITY};
        for (double hour : hours) {
            Check.same("19 hour " + hour, sea.tide(hour), 0.0);
        }
    }

    private static void gaugeRefuses() {
        Sea sea = new Sea(2, 1, 1);
        Check.yes("18 on land", sea.gauge(1, 0, 0.0, 1.0));
        for (int none : NO_PLACES) {
            Check.no("18 i " + none, sea.gauge(none, 0, 1.0, 5.0));
            Check.no("18 j " + none, sea.gauge(0, none, 1.0, 5.0));
        }
        double[] hours = {-0.001, 1000.001, Double.NaN, Double.POSITIVE_INFINITY};
        for (double hour : hours) {
            Check.no("18 hour " + hour, sea.gauge(0, 0, hour, 5.0));
        }
        double[] levels = {-100.001, 100.001, Double.NaN, Double.NEGATIVE_INFINITY};
        for (double level : levels) {
            Check.no("18 level " + level, sea.gauge(0, 0, 1.0, level));
        }
        sea.fit(0);
        Check.same("18 nothing of them was told", sea.tide(0.0), 1.0);
        Check.yes("18 greatest", sea.gauge(0, 0, 1000.0, 100.0));
        Check.yes("18 least", sea.gauge(0, 0, 0.0, -100.0));
    }

    private static void fortyGauges() {
        Sea sea = new Sea(3, 1, 1);
        sea.depth(0, 0, 10.0);
        for (int k = 0; k < 40; k++) {
            Check.yes("18 gauge " + k, sea.gauge(k % 3, 0, k, k < 20 ? 1.0 : 2.0));
        }
        Check.no("18 the next one", sea.gauge(0, 0, 1.0, 50.0));
        Check.no("18 and the next", sea.gauge(1, 0, 1.0, 50.0));
        sea.fit(0);
        Check.same("18 forty of them", sea.tide(0.0), 1.5);
        Check.same("18 the last one that was taken", sea.differs(0, 0), 2.0);
    }

    private static void differsFromTheLevelNow() {
        Sea sea = new Sea(2, 1, 1);
        sea.depth(0, 0, 10.0);
        sea.depth(1, 0, 10.0);
        Check.yes("24 told", sea.gauge(0, 0, 9.0, 0.75));
        Check.same("24 differs", sea.differs(0, 0), 0.75);
        Check.yes("24 told last, of an hour before", sea.gauge(0, 0, 2.0, -0.5));
        Check.same("24 the one told last", sea.differs(0, 0), -0.5);
        Check.yes("24 another cell", sea.gauge(1, 0, 3.0, 4.0));
        Check.same("24 each of its own cell", sea.differs(0, 0), -0.5);
        Check.same("24 the other", sea.differs(1, 0), 4.0);
        sea.river(0, 0, 3.0);
        sea.run(1, 100.0);
        Check.same("24 the level now", sea.differs(0, 0), -0.5 - (10300 * 0.001 - 10.0));
        sea.depth(0, 0, 0.0);
        Check.same("24 land", sea.differs(0, 0), 0.0);
        sea.depth(0, 0, 3.3333);
        Check.same("24 water again", sea.differs(0, 0), -0.5 - (3333 * 0.001 - 3.3333));
    }

    private static void differsOfNone() {
        Sea sea = new Sea(2, 1, 1);
        sea.depth(0, 0, 3.3333);
        Check.same("24 none told", sea.differs(0, 0), 0.0);
        sea.gauge(1, 0, 0.0, 7.0);
        Check.same("24 none told here", sea.differs(0, 0), 0.0);
        Check.same("24 land that was told", sea.differs(1, 0), 0.0);
        sea.gauge(0, 0, 0.0, 7.0);
        for (int none : NO_PLACES) {
            Check.same("24 i " + none, sea.differs(none, 0), 0.0);
            Check.same("24 j " + none, sea.differs(0, none), 0.0);
        }
    }

    /** To the last bit, with rows written out as the document tells them. */
    private static void eliminationByHand() {
        double[] hours = {0.1, 0.7, 1.3, 2.9, 3.1};
        double[] levels = {0.3, -0.9, 1.7, 2.2, -3.1};
        Sea sea = new Sea(1, 1, 1);
        double[][] a = new double[3][3];
        double[] b = new double[3];
        for (int k = 0; k < hours.length; k++) {
            sea.gauge(0, 0, hours[k], levels[k]);
            double t = hours[k] * 3600;
            double[] f = {1.0, Lines.saw(t / 3600), Lines.saw(t / 3600 + 0.25)};
            for (int r = 0; r < 3; r++) {
                b[r] = b[r] + f[r] * levels[k];
                for (int c = 0; c < 3; c++) {
                    a[r][c] = a[r][c] + f[r] * f[c];
                }
            }
        }
        double by = a[1][0] / a[0][0];
        a[1][1] = a[1][1] - by * a[0][1];
        a[1][2] = a[1][2] - by * a[0][2];
        b[1] = b[1] - by * b[0];
        by = a[2][0] / a[0][0];
        a[2][1] = a[2][1] - by * a[0][1];
        a[2][2] = a[2][2] - by * a[0][2];
        b[2] = b[2] - by * b[0];
        by = a[2][1] / a[1][1];
        a[2][2] = a[2][2] - by * a[1][2];
        b[2] = b[2] - by * b[1];
        double b0 = b[2] / a[2][2];
        double a0 = (b[1] - a[1][2] * b0) / a[1][1];
        double c0 = (b[0] - a[0][1] * a0 - a[0][2] * b0) / a[0][0];
        Check.same("17 three", sea.fit(1), 3);
        double[] asked = {0.0, 0.1, 0.33, 0.77, 5.2, 999.9};
        for (double hour : asked) {
            double t = hour * 3600;
            Check.same("19 hour " + hour, sea.tide(hour),
                c0 + a0 * Lines.saw(t / 3600) + b0 * Lines.saw(t / 3600 + 0.25));
        }
    }
}
