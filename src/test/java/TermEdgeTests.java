/**
 * Edges of "What it is" and of the first half of "Terms": lines and what is cut, cells, dryness,
 * faces, open sides, saws and the level outside. Each test quotes the sentence that it holds.
 */
public final class TermEdgeTests {
    private static final double NOWHERE = -1.0e6;

    public static void main(String[] args) {
        theLastOf512CallsHolds();
        timeHoldsOverAllCalls();
        laterCallsReturn();
        operationsGoFromTheLeft();
        depthsAreCut();
        flowsAreCut();
        riversAreCut();
        hoursAreCut();
        flowsBeyondAllLongsAreCutToTheGreatest();
        cellsEndAtX();
        cellsEndAtY();
        landAtFirst();
        waterFromTheLeastDepthOn();
        levelsBelowZeroAndAbove();
        dryBelowFifty();
        dryAsTheVolumeFalls();
        landIsDry();
        facesLieBetweenWaterAlone();
        facesLieSideBySide();
        noFaceAcrossTheEndOfARow();
        sidesAreClosedAtFirst();
        aSideIsOpenedByAnyWave();
        aSideIsNotOpenedByARefusedWave();
        sidesLieAtTheirEdges();
        sidesHaveTheirAxes();
        sidesOfOneCell();
        cellsOffTheEdgeHaveNoSide();
        speedsAreZeroAtFirst();
        sawBelowAHalf();
        sawAtWholeNumbers();
        theLevelOutsideIsZeroWithoutSize();
        wavesAddUpInTheirOrder();
        wavesTurnAroundAtTheirHours();
        Check.end();
    }

    // ---- What it is

    /** What it is: "An object is used for at most 512 calls after it has been made". */
    private static void theLastOf512CallsHolds() {
        Sea sea = new Sea(1, 1, 1);
        sea.depth(0, 0, 10.0);
        sea.river(0, 0, 1000.0);
        for (int call = 3; call <= 510; call++) {
            Check.same("What it is: call " + call, sea.run(200, 600.0), 200);
        }
        long due = 10000 + 508L * 200 * 600000;
        Check.same("What it is: call 511", sea.volume(0), due & 0xFFFFFFFFL);
        Check.same("What it is: call 512", sea.volume(1), due >> 32);
        Check.same("What it is: calls", sea.calls(), 512);
    }

    /** What it is: 512 calls; Terms: "from time t (0 at first; seconds) on", as far as it can go. */
    private static void timeHoldsOverAllCalls() {
        Sea sea = new Sea(1, 1, 1);
        sea.border(1, 0, 1.0, 0.0);
        sea.wind(18, 40.0, 0.0);
        for (int n = 0; n < 506; n++) {
            sea.run(200, 600.0);
        }
        double t = 506 * 120000.0;
        sea.run(1, 400.0);
        t = t + 400.0;
        sea.depth(0, 0, 10.0);
        sea.run(1, 1.0);
        Check.same("What it is: its hour", (long) (t / 3600) % 24, 18);
        double outside = 0.0 + 1.0 * Lines.saw(t / 3600 + 0.0);
        Check.same("What it is: call 512 sees its tide and wind", sea.speed(0, 0, 0, 0),
            Lines.speed(0.0, 1.0, 0.0 - outside, 40.0));
        Check.same("What it is: calls", sea.calls(), 512);
    }

    /** What it is: "what later calls answer is free": but they do answer (LANGUAGE.md, 7). */
    private static void laterCallsReturn() {
        CellCurrents sea = new CellCurrents(12, 12, 4);
        for (int k = 0; k < 144; k++) {
            sea.depth(k % 12, k / 12, 1000.0);
            sea.river(k % 12, k / 12, 1000.0);
        }
        for (int side = 0; side < 4; side++) {
            sea.border(side, side, 20.0, 0.3 * side);
        }
        for (int n = 0; n < 230; n++) {
            sea.run(n % 10 == 0 ? 200 : 1, 600.0);
        }
        for (int n = 0; n < 60; n++) {
            sea.nest(n % 12, n / 12, 8);
            sea.gauge(n % 12, n / 12, n, 1.0);
            sea.save();
            sea.back(n % 5);
            sea.fit(n % 3);
        }
        Check.yes("What it is: all of them have come back", true);
    }

    // ---- Lines

    /** Terms: "each operation one of doubles, from the left to the right, .. brackets first". */
    private static void operationsGoFromTheLeft() {
        Sea sea = Sea.row(7.0, 9.0);
        sea.wind(0, 83.0, 0.0);
        double s = 0.0;
        double mud = 0.0;
        long[] volume = {7000, 9000};
        int other = 0;
        for (int n = 0; n < 25; n++) {
            double h = 1.1 + 5.3 * n;
            double d = Lines.level(volume[0], 7.0) - Lines.level(volume[1], 9.0);
            double regrouped = (s + (h * 0.00981 * d + h * 0.00001 * 83.0))
                / (1 + 0.002 * (h * Math.abs(s)));
            s = Lines.speed(s, h, d, 83.0);
            other += s != regrouped ? 1 : 0;
            long q = Lines.asked(s, h, Math.min(volume[0], volume[1]));
            q = q < 0 ? -Math.min(-q, volume[1] / 8) : Math.min(q, volume[0] / 8);
            volume[0] -= q;
            volume[1] += q;
            mud = Math.abs(s) > 0.2 ? mud + 0.001 * h * (Math.abs(s) - 0.2) : mud;
            sea.run(1, h);
            Check.same("Terms, lines: speed of step " + n, sea.speed(0, 0, 0, 0), s);
            Check.same("Terms, lines: level of step " + n, sea.level(1, 0), Lines.level(volume[1], 9.0));
            Check.same("Terms, lines: mud of step " + n, sea.mud(1, 0), mud);
        }
        Check.yes("Terms, lines: another order would show", other > 5);
    }

    // ---- what is cut

    /** Terms: "CUT ( v ) is v as a long, what is behind the point left out", of a depth. */
    private static void depthsAreCut() {
        double[] metres = {Double.MIN_VALUE, 0.0005, Math.nextDown(0.001), 0.001, 0.0015, 0.002,
            Math.nextDown(1.0), 1.0, 1.0009, 999.9999, 1000.0};
        long[] parts = {0, 0, 0, 1, 1, 2, 999, 1000, 1000, 999999, 1000000};
        for (int k = 0; k < metres.length; k++) {
            Sea sea = Sea.row(metres[k]);
            Check.same("Terms, CUT: parts of " + metres[k], sea.volume(0), parts[k]);
            Check.same("Terms, CUT: level of " + metres[k], sea.level(0, 0),
                Lines.level(parts[k], metres[k]));
        }
    }

    /** Terms: CUT of a flow: towards 0 on both sides of it, whole ones stay. */
    private static void flowsAreCut() {
        for (int parts = 1; parts <= 3; parts++) {
            double enough = leastWindFor(parts);
            Check.same("Terms, CUT: just a whole flow", flowOf(enough), parts);
            Check.same("Terms, CUT: just less", flowOf(Math.nextDown(enough)), parts - 1);
            Check.same("Terms, CUT: just a whole flow back", flowOf(-enough), -parts);
            Check.same("Terms, CUT: just less back", flowOf(Math.nextUp(-enough)), 1 - parts);
        }
    }

    /** The least wind that asks for so many parts in 100 seconds over a metre. */
    private static double leastWindFor(int parts) {
        double wind = 10.0 * parts * (1 - 1.0e-14);
        while (Lines.speed(0.0, 100.0, 0.0, wind) * 100.0 * (1000 * 0.001) < parts) {
            wind = Math.nextUp(wind);
        }
        return wind;
    }

    /** What that wind moves from a cell of a metre to the next one in 100 seconds. */
    private static long flowOf(double wind) {
        Sea sea = Sea.row(1.0, 1.0);
        sea.wind(0, wind, 0.0);
        sea.run(1, 100.0);
        long moved = Math.round(sea.level(1, 0) * 1000);
        Check.same("Terms, CUT: level", sea.level(1, 0), Lines.level(1000 + moved, 1.0));
        return moved;
    }

    /** Terms: CUT ( rate * h ), at a whole number and just below it. */
    private static void riversAreCut() {
        double[][] rateAndTime = {{2.0, 1.5}, {Math.nextDown(2.0), 1.5}, {2.0, Math.nextDown(1.5)},
            {0.5, 1.0}, {Math.nextDown(1.0), 1.0}, {1.0, 1.0}, {0.001, 600.0}, {Double.MIN_VALUE, 600.0},
            {1000.0, 600.0}, {1000.0, Math.nextDown(600.0)}};
        long[] parts = {3, 2, 2, 0, 0, 1, 0, 0, 600000, 599999};
        for (int k = 0; k < parts.length; k++) {
            Sea sea = Sea.row(10.0);
            sea.river(0, 0, rateAndTime[k][0]);
            sea.run(1, rateAndTime[k][1]);
            Check.same("Terms, CUT: river of " + rateAndTime[k][0] + " in " + rateAndTime[k][1],
                sea.volume(0), 10000 + parts[k]);
        }
    }

    /** Terms: "hour CUT ( t / 3600 ) modulo 24": the last moment of an hour, and the next one. */
    private static void hoursAreCut() {
        double beforeAnHour = 599.99999999999;
        windAt(0, 0, 0.0, 0);
        windAt(5, 0, 599.9999999999995, 0);
        windAt(6, 0, 0.0, 1);
        windAt(11, 0, beforeAnHour, 1);
        windAt(12, 0, 0.0, 2);
        windAt(137, 0, 0.0, 22);
        windAt(138, 0, 0.0, 23);
        windAt(143, 0, 599.99999999, 23);
        windAt(144, 0, 0.0, 0);
        windAt(149, 0, 599.99999999, 0);
        windAt(150, 0, 0.0, 1);
        windAt(0, 2, 0.0, 0);
        windAt(138, 3, 0.0, 23);
        windAt(144, 3, 0.0, 0);
        windAt(137, 9, 0.0, 22);
    }

    /** So many steps of ten minutes, so many days and some seconds from the start: whose wind? */
    private static void windAt(int steps, int days, double seconds, int hour) {
        Sea sea = new Sea(2, 2, 1);
        for (int k = 0; k < 24; k++) {
            sea.wind(k, 1.0 + k, -50.0 - k);
        }
        for (int day = 0; day < days; day++) {
            sea.run(144, 600.0);
        }
        sea.run(steps - steps / 2, 600.0);
        sea.run(steps / 2, 600.0);
        if (seconds > 0.0) {
            sea.run(1, seconds);
        }
        sea.depth(0, 0, 10.0);
        sea.depth(1, 0, 10.0);
        sea.depth(0, 1, 10.0);
        sea.run(1, 1.0);
        String name = "Terms, hour: wind after " + days + " days, " + steps + " steps, " + seconds;
        Check.same(name, sea.speed(0, 0, 0, 0), Lines.speed(0.0, 1.0, 0.0, 1.0 + hour));
        Check.same(name + ", axis 1", sea.speed(0, 0, 0, 1), Lines.speed(0.0, 1.0, 0.0, -50.0 - hour));
    }

    /** Terms: CUT as a long: what is greater than all longs is the greatest, then an eighth. */
    private static void flowsBeyondAllLongsAreCutToTheGreatest() {
        for (int side = 0; side < 4; side++) {
            Sea sea = Sea.row(10.0);
            sea.river(0, 0, 1000.0);
            for (int n = 0; n < 500; n++) {
                sea.run(200, 600.0);
            }
            sea.river(0, 0, 0.0);
            sea.border(side, 0, 0.0, 0.0);
            long volume = 10000 + 500L * 200 * 600000;
            double d = Lines.level(volume, 10.0) - 0.0;
            double asked = Lines.speed(0.0, 600.0, d, 0.0) * 600.0 * (volume * 0.001);
            Check.yes("Terms, CUT: beyond all longs", asked > Long.MAX_VALUE);
            sea.run(1, 600.0);
            Check.same("Terms, CUT: an eighth over side " + side, sea.through(side), -(volume / 8));
        }
    }

    // ---- cells

    /** Terms: "CELLS are i of 0 .. x - 1". */
    private static void cellsEndAtX() {
        for (int x = 1; x <= 12; x++) {
            Sea sea = new Sea(x, 2, 1);
            Check.yes("Terms, cells: i 0 of " + x, sea.depth(0, 0, 1.0));
            Check.yes("Terms, cells: i " + (x - 1) + " of " + x, sea.depth(x - 1, 0, 2.0));
            Check.no("Terms, cells: i " + x + " of " + x, sea.depth(x, 0, 4.0));
            Check.no("Terms, cells: i -1", sea.depth(-1, 1, 8.0));
            Check.same("Terms, cells: these alone", sea.volume(0), x == 1 ? 2000 : 3000);
            Check.same("Terms, cells: no cell of the next row", sea.level(0, 1), NOWHERE);
        }
    }

    /** Terms: "j of 0 .. y - 1". */
    private static void cellsEndAtY() {
        for (int y = 1; y <= 12; y++) {
            Sea sea = new Sea(2, y, 1);
            Check.yes("Terms, cells: j 0 of " + y, sea.depth(0, 0, 1.0));
            Check.yes("Terms, cells: j " + (y - 1) + " of " + y, sea.depth(0, y - 1, 2.0));
            Check.no("Terms, cells: j " + y + " of " + y, sea.depth(0, y, 4.0));
            Check.no("Terms, cells: j -1", sea.depth(1, -1, 8.0));
            Check.same("Terms, cells: these alone", sea.volume(0), y == 1 ? 2000 : 3000);
            Check.same("Terms, cells: no cell of the next column", sea.level(1, 0), NOWHERE);
        }
    }

    /** Terms: "A cell is LAND at first". */
    private static void landAtFirst() {
        Sea sea = new Sea(12, 12, 1);
        for (int k = 0; k < 144; k++) {
            Check.same("Terms, land: " + k, sea.level(k % 12, k / 12), NOWHERE);
        }
        sea.run(1, 600.0);
        for (int k = 0; k < 144; k++) {
            Check.no("Terms, land: no river at " + k, sea.river(k % 12, k / 12, 1.0));
        }
        Check.same("Terms, land: no volume", sea.volume(), 0);
    }

    /** Terms: "or WATER with a DEPTH": any depth above 0.0, even with no part in it. */
    private static void waterFromTheLeastDepthOn() {
        Sea sea = Sea.row(Double.MIN_VALUE, 0.0, 0.0009, 0.001);
        Check.same("Terms, water: the least depth", sea.level(0, 0), 0 * 0.001 - Double.MIN_VALUE);
        Check.same("Terms, water: none", sea.level(1, 0), NOWHERE);
        Check.same("Terms, water: less than a part", sea.level(2, 0), 0 * 0.001 - 0.0009);
        Check.same("Terms, water: one part", sea.level(3, 0), 1 * 0.001 - 0.001);
        Check.yes("Terms, water: takes a river", sea.river(0, 0, 1.0));
        Check.yes("Terms, water: takes a river", sea.river(2, 0, 1.0));
        sea.run(1, 5.0);
        Check.same("Terms, water: five parts each", sea.volume(0), 11);
    }

    /** Terms: "Its LEVEL is volume * 0.001 - depth": below 0.0, at it, and above. */
    private static void levelsBelowZeroAndAbove() {
        Sea sea = Sea.row(0.0015, 0.0, 0.002);
        Check.same("Terms, level: below", sea.level(0, 0), 1 * 0.001 - 0.0015);
        Check.yes("Terms, level: is below", sea.level(0, 0) < 0.0);
        Check.same("Terms, level: at 0.0", sea.level(2, 0), 0.0);
        sea.river(0, 0, 1.0);
        sea.run(1, 1.0);
        Check.same("Terms, level: above", sea.level(0, 0), 2 * 0.001 - 0.0015);
        Check.yes("Terms, level: is above", sea.level(0, 0) > 0.0);
    }

    /** Terms: "It is DRY when its volume is below 50". */
    private static void dryBelowFifty() {
        Sea sea = Sea.row(0.0485, 0.0495, 0.0505, 0.0515, 0.0005);
        Check.yes("Terms, dry: 48", sea.dry(0, 0));
        Check.yes("Terms, dry: 49", sea.dry(1, 0));
        Check.no("Terms, dry: 50", sea.dry(2, 0));
        Check.no("Terms, dry: 51", sea.dry(3, 0));
        Check.yes("Terms, dry: 0", sea.dry(4, 0));
        sea.depth(0, 0, 0.0);
        sea.depth(2, 0, 0.0);
        sea.river(1, 0, 1.0);
        sea.run(1, 1.0);
        Check.no("Terms, dry: 49 and one more", sea.dry(1, 0));
    }

    /** Terms: dry: volumes that fall from 50 on, to 44, and stay there, as a dry cell gives nothing. */
    private static void dryAsTheVolumeFalls() {
        Sea sea = Sea.row(0.0505, 10.0);
        sea.wind(0, 100.0, 0.0);
        Check.no("Terms, dry: 50 parts", sea.dry(0, 0));
        sea.run(1, 600.0);
        Check.same("Terms, dry: 44 parts", sea.level(0, 0), Lines.level(44, 0.0505));
        Check.yes("Terms, dry: 44 parts", sea.dry(0, 0));
        sea.run(1, 600.0);
        Check.same("Terms, dry: still 44 parts", sea.level(0, 0), Lines.level(44, 0.0505));
    }

    /** Terms: "(land is dry)". */
    private static void landIsDry() {
        Sea sea = Sea.row(0.0, 10.0);
        Check.yes("Terms, dry: land", sea.dry(0, 0));
        Check.no("Terms, dry: water", sea.dry(1, 0));
        sea.depth(1, 0, 0.0);
        Check.yes("Terms, dry: new land", sea.dry(1, 0));
    }

    // ---- faces

    /** Terms: "FACES lie between two cells of water": with land on either side there is none. */
    private static void facesLieBetweenWaterAlone() {
        double[][] depths = {{10.0, 0.0}, {0.0, 10.0}, {0.0, 0.0}, {10.0, 10.0}};
        for (double[] two : depths) {
            boolean face = two[0] > 0.0 && two[1] > 0.0;
            for (int axis = 0; axis < 2; axis++) {
                Sea sea = axis == 0 ? Sea.row(two) : Sea.column(two);
                sea.wind(0, 100.0, 100.0);
                sea.run(1, 600.0);
                String name = "Terms, faces: " + two[0] + " beside " + two[1] + ", axis " + axis;
                Check.same(name, sea.speed(0, 0, 0, axis), face ? Lines.speed(0.0, 600.0, 0.0, 100.0) : 0.0);
                Check.same(name + ": mud before it", sea.mud(0, 0) > 0.0 ? 1 : 0, face ? 1 : 0);
                Check.same(name + ": mud behind it", sea.mud(1 - axis, axis) > 0.0 ? 1 : 0, face ? 1 : 0);
            }
        }
    }

    /** Terms: "side by side": not corner to corner, not over a cell between. */
    private static void facesLieSideBySide() {
        int[][] places = {{0, 0, 1, 1}, {1, 0, 0, 1}, {0, 0, 2, 0}, {0, 0, 0, 2}, {2, 2, 1, 1}};
        for (int[] two : places) {
            noFaceBetween("Terms, faces: corner to corner or apart", 3, 3, two);
        }
    }

    /** Terms: "of axis 0 from ( i, j ) to ( i + 1, j )": there is no next cell behind the last one. */
    private static void noFaceAcrossTheEndOfARow() {
        noFaceBetween("Terms, faces: the end of a row", 3, 3, new int[] {2, 0, 0, 1});
        noFaceBetween("Terms, faces: the end of a column", 3, 3, new int[] {0, 2, 1, 0});
        noFaceBetween("Terms, faces: the last and the first", 3, 3, new int[] {2, 2, 0, 0});
        noFaceBetween("Terms, faces: both ends of a row", 12, 2, new int[] {11, 0, 0, 0});
        noFaceBetween("Terms, faces: both ends of a column", 2, 12, new int[] {0, 11, 0, 0});
        noFaceBetween("Terms, faces: the end of a row of 12", 12, 2, new int[] {11, 0, 0, 1});
    }

    private static void noFaceBetween(String name, int x, int y, int[] two) {
        Sea sea = new Sea(x, y, 1);
        sea.depth(two[0], two[1], 10.0);
        sea.depth(two[2], two[3], 10.0);
        sea.river(two[0], two[1], 10.0);
        sea.wind(0, 100.0, 100.0);
        sea.run(3, 600.0);
        Check.same(name + ": the level of the one", sea.level(two[0], two[1]), Lines.level(28000, 10.0));
        Check.same(name + ": the level of the other", sea.level(two[2], two[3]), 0.0);
        Check.same(name + ": mud", sea.mud(two[0], two[1]), 0.0);
        for (int axis = 0; axis < 2; axis++) {
            Check.same(name + ": speed", sea.speed(two[0], two[1], 0, axis), 0.0);
            Check.same(name + ": other speed", sea.speed(two[2], two[3], 0, axis), 0.0);
        }
    }

    // ---- sides

    /** Terms: "at sides that are OPEN (some wave was told for them)": none is at first. */
    private static void sidesAreClosedAtFirst() {
        Sea sea = Sea.even(2, 2, 10.0);
        sea.wind(0, 100.0, 100.0);
        sea.run(1, 600.0);
        for (int side = 0; side < 4; side++) {
            Check.same("Terms, sides: nothing over side " + side, sea.through(side), 0);
        }
        Check.same("Terms, sides: no face at side 1", sea.speed(1, 0, 0, 0), 0.0);
        Check.same("Terms, sides: no face at side 3", sea.speed(0, 1, 0, 1), 0.0);
    }

    /** Terms: open: some wave was told, the first or the last, and be its size 0.0. */
    private static void aSideIsOpenedByAnyWave() {
        for (int side = 0; side < 4; side++) {
            for (int wave = 0; wave < 8; wave++) {
                Sea sea = Sea.even(2, 2, 10.0);
                Check.yes("Terms, sides: wave " + wave, sea.border(side, wave, 0.0, 0.0));
                sea.wind(0, 100.0, 100.0);
                sea.run(1, 600.0);
                long in = 2 * Lines.asked(Lines.speed(0.0, 600.0, 0.0, 100.0), 600.0, 10000);
                long due = side == 0 || side == 2 ? in : -2 * (10000 / 8);
                for (int k = 0; k < 4; k++) {
                    Check.same("Terms, sides: " + side + " opened by wave " + wave + ", over " + k,
                        sea.through(k), k == side ? due : 0);
                }
            }
        }
    }

    /** Terms: open: a wave that was refused was not told. */
    private static void aSideIsNotOpenedByARefusedWave() {
        for (int side = 0; side < 4; side++) {
            Sea sea = Sea.even(2, 2, 10.0);
            Check.no("Terms, sides: wave 8", sea.border(side, 8, 1.0, 0.0));
            Check.no("Terms, sides: size", sea.border(side, 0, Math.nextUp(20.0), 0.0));
            Check.no("Terms, sides: phase", sea.border(side, 0, 1.0, Math.nextUp(1.0)));
            sea.wind(0, 100.0, 100.0);
            sea.run(2, 600.0);
            Check.same("Terms, sides: " + side + " stays closed", sea.through(side), 0);
        }
    }

    /** Terms: "side 0 at i = 0, 1 at i = x - 1, 2 at j = 0, 3 at j = y - 1", and their cells. */
    private static void sidesLieAtTheirEdges() {
        for (int side = 0; side < 4; side++) {
            Sea sea = new Sea(3, 4, 1);
            for (int k = 0; k < 12; k += 1) {
                if ((k % 3 + k / 3) % 2 == 0) {
                    sea.depth(k % 3, k / 3, 10.0);
                }
            }
            sea.border(side, 0, 2.0, 0.0);
            sea.run(1, 60.0);
            long in = Lines.asked(Lines.speed(0.0, 60.0, 2.0, 0.0), 60.0, 10000);
            long due = 0;
            for (int k = 0; k < 12; k += 1) {
                int i = k % 3;
                int j = k / 3;
                boolean water = (i + j) % 2 == 0;
                boolean at = side == 0 ? i == 0 : side == 1 ? i == 2 : side == 2 ? j == 0 : j == 3;
                Check.same("Terms, sides: " + side + " beside " + i + ", " + j, sea.level(i, j),
                    !water ? NOWHERE : at ? Lines.level(10000 + in, 10.0) : 0.0);
                due += water && at ? in : 0;
            }
            Check.same("Terms, sides: over " + side, sea.through(side), due);
        }
    }

    /** Terms: "sides 0 and 1 have the axis 0", so 2 and 3 have the axis 1: by their winds. */
    private static void sidesHaveTheirAxes() {
        for (int side = 0; side < 4; side++) {
            Sea sea = Sea.row(10.0);
            sea.border(side, 0, 0.0, 0.0);
            sea.wind(0, 50.0, -20.0);
            sea.run(1, 60.0);
            long q = Lines.asked(Lines.speed(0.0, 60.0, 0.0, side < 2 ? 50.0 : -20.0), 60.0, 10000);
            Check.same("Terms, sides: the axis of " + side, sea.through(side), side % 2 == 0 ? q : -q);
        }
    }

    /** Terms: sides where x - 1 is 0 and y - 1 is 0: one cell has all four, before or behind it. */
    private static void sidesOfOneCell() {
        for (int side = 0; side < 4; side++) {
            Sea sea = Sea.row(10.0);
            sea.border(side, 0, 0.0, 0.0);
            sea.wind(0, 50.0, 50.0);
            sea.run(1, 60.0);
            double s = Lines.speed(0.0, 60.0, 0.0, 50.0);
            long q = Lines.asked(s, 60.0, 10000);
            boolean behind = side == 0 || side == 2;
            Check.same("Terms, sides: the cell at " + side, sea.through(side), behind ? q : -q);
            Check.same("Terms, sides: axis 0 of " + side, sea.speed(0, 0, 0, 0), side == 1 ? s : 0.0);
            Check.same("Terms, sides: axis 1 of " + side, sea.speed(0, 0, 0, 1), side == 3 ? s : 0.0);
        }
    }

    /** Terms: sides lie at the edges alone: the cell in the middle of 3 by 3 has none. */
    private static void cellsOffTheEdgeHaveNoSide() {
        Sea sea = new Sea(3, 3, 1);
        sea.depth(1, 1, 10.0);
        for (int side = 0; side < 4; side++) {
            sea.border(side, 0, 20.0, 0.0);
        }
        sea.wind(0, 100.0, -100.0);
        sea.run(2, 600.0);
        Check.same("Terms, sides: none of the middle", sea.level(1, 1), 0.0);
        Check.same("Terms, sides: nothing over them", sea.through(0), 0);
        Check.same("Terms, sides: no speed", sea.speed(1, 1, 0, 0), 0.0);
    }

    /** Terms: "Each has a SPEED, 0 at first": the first step starts from it, on every kind of face. */
    private static void speedsAreZeroAtFirst() {
        Sea sea = Sea.even(2, 2, 10.0);
        for (int side = 0; side < 4; side++) {
            sea.border(side, 0, 2.0, 0.0);
        }
        for (int k = 0; k < 8; k++) {
            Check.same("Terms, speed: at first", sea.speed(k % 2, k / 2 % 2, 0, k / 4), 0.0);
        }
        sea.run(1, 60.0);
        double in = Lines.speed(0.0, 60.0, 2.0 - 0.0, 0.0);
        Check.same("Terms, speed: within", sea.speed(0, 0, 0, 0), 0.0);
        Check.same("Terms, speed: to side 1", sea.speed(1, 0, 0, 0), -in);
        Check.same("Terms, speed: to side 3", sea.speed(0, 1, 0, 1), -in);
        for (int side = 0; side < 4; side++) {
            Check.same("Terms, speed: over " + side, sea.through(side), 2 * Lines.asked(in, 60.0, 10000));
        }
    }

    // ---- saws and the level outside

    /** Terms: SAW: "1 - 4 * f if f is below 0.5, otherwise 4 * f - 3". */
    private static void sawBelowAHalf() {
        double below = Math.nextDown(0.5);
        double above = Math.nextUp(0.5);
        outside("below a half", 0, 1.0, below, 0, -0.9999999999999998);
        outside("at a half", 0, 1.0, 0.5, 0, -1.0);
        outside("above a half", 0, 1.0, above, 0, -0.9999999999999996);
        outside("at a quarter", 0, 1.0, 0.25, 0, 0.0);
        outside("below a quarter", 0, 1.0, 0.125, 0, 0.5);
        outside("at three quarters", 0, 1.0, 0.75, 0, 0.0);
        outside("above three quarters", 0, 1.0, 0.875, 0, 0.5);
    }

    /** Terms: SAW: "f = u less the greatest whole number not above it". */
    private static void sawAtWholeNumbers() {
        outside("at 0", 0, 1.0, 0.0, 0, 1.0);
        outside("just above 0", 0, 1.0, Double.MIN_VALUE, 0, 1.0);
        outside("just below 1", 0, 1.0, Math.nextDown(1.0), 0, 4 * Math.nextDown(1.0) - 3);
        outside("at 1", 0, 1.0, 1.0, 0, 1.0);
        outside("at 1 by the time", 0, 1.0, 0.0, 6, 1.0);
        outside("at 2 by both", 0, 1.0, 1.0, 6, 1.0);
        outside("above 1", 0, 1.0, 0.125, 6, 0.5);
        outside("above 2", 0, 1.0, 0.125, 12, 0.5);
        outside("below 3", 0, 1.0, 0.875, 12, 0.5);
        outside("at 100", 0, 1.0, 0.0, 600, 1.0);
        outside("above 100", 0, 1.0, 0.75, 600, 0.0);
    }

    /** The level outside of a side with that wave, so many steps of ten minutes from the start. */
    private static void outside(String name, int wave, double size, double phase, int steps, double due) {
        Sea sea = new Sea(1, 1, 1);
        sea.border(1, wave, size, phase);
        for (int n = 0; n < steps; n += 6) {
            sea.run(Math.min(6, steps - n), 600.0);
        }
        sea.depth(0, 0, 10.0);
        sea.run(1, 1.0);
        Check.same("Terms, outside: " + name, sea.speed(0, 0, 0, 0), Lines.speed(0.0, 1.0, 0.0 - due, 0.0));
    }

    /** Terms: "THE LEVEL OUTSIDE a side at a time t is 0.0": with waves of size 0.0 alone. */
    private static void theLevelOutsideIsZeroWithoutSize() {
        outside("size 0.0", 0, 0.0, 0.0, 0, 0.0);
        outside("size 0.0 of wave 7", 7, 0.0, 0.5, 3, 0.0);
        outside("size -0.0", 3, -0.0, 0.5, 3, 0.0);
        outside("the least size", 0, Double.MIN_VALUE, 0.0, 0, Double.MIN_VALUE);
        outside("the greatest size", 0, 20.0, 0.0, 0, 20.0);
        outside("the greatest size below", 0, 20.0, 0.5, 0, -20.0);
    }

    /** Terms: "added for each wave 0, 1, .. that was told for it", whatever the order of telling. */
    private static void wavesAddUpInTheirOrder() {
        // Each small one lifts 1.0 by a last bit of its own; together they lift it by less.
        double[] sizes = {1.0, 1.2e-16, 1.2e-16, 1.2e-16, 1.2e-16, 1.2e-16, 1.2e-16, 1.2e-16};
        double due = 0.0;
        for (double size : sizes) {
            due = due + size * 1.0;
        }
        double other = 0.0;
        for (int wave = 7; wave >= 0; wave--) {
            other = other + sizes[wave] * 1.0;
        }
        Check.yes("Terms, outside: another order would show",
            Lines.speed(0.0, 1.0, 0.0 - due, 0.0) != Lines.speed(0.0, 1.0, 0.0 - other, 0.0));
        for (int turn = 0; turn < 2; turn++) {
            Sea sea = Sea.row(10.0);
            for (int k = 0; k < 8; k++) {
                int wave = turn == 0 ? k : 7 - k;
                sea.border(1, wave, sizes[wave], 0.0);
            }
            sea.run(1, 1.0);
            Check.same("Terms, outside: all eight", sea.speed(0, 0, 0, 0), Lines.speed(0.0, 1.0, 0.0 - due, 0.0));
        }
    }

    /** Terms: "t / (3600 * (wave + 1))": each wave turns around at its own hours. */
    private static void wavesTurnAroundAtTheirHours() {
        for (int wave = 0; wave < 8; wave++) {
            int steps = 6 * (wave + 1);
            outside("a half turn of wave " + wave, wave, 1.0, 0.0, steps / 2, -1.0);
            outside("a whole turn of wave " + wave, wave, 1.0, 0.0, steps, 1.0);
            outside("a turn and a half of wave " + wave, wave, 1.0, 0.5, 2 * steps, -1.0);
            outside("a step before the turn of wave " + wave, wave, 1.0, 0.0, steps - 1,
                4 * ((steps - 1) * 600.0 / (3600 * (wave + 1))) - 3);
            outside("a step behind the turn of wave " + wave, wave, 1.0, 0.0, steps + 1,
                1 - 4 * ((steps + 1) * 600.0 / (3600 * (wave + 1)) - 1));
        }
    }
}
